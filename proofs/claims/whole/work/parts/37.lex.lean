/-! ===== L2: the tape's tokens ===== -/
section E17
variable {By tape : Nat → Int32} {n : Nat}
/-- the sort of what stands at a place: 0 end, 1 letter, 2 figure, 3 semicolon, 4 strange -/
def so (By : Nat → Int32) (n pos : Nat) : Nat := if n ≤ pos then 0 else if tb (By pos) 97 122 = 1 then 1 else if tb (By pos) 48 57 = 1 then 2 else if By pos = 59 then 3 else 4
def skp (By : Nat → Int32) : Nat → Nat → Nat
  | 0, pos => pos
  | d + 1, pos => if By pos = 32 then skp By d (pos + 1) else pos
def rn (By : Nat → Int32) (n k : Nat) : Nat → Nat → Nat
  | 0, pos => pos
  | d + 1, pos => if so By n pos = k then rn By n k d (pos + 1) else pos
def vl (By : Nat → Int32) (n b : Nat) : Nat → Nat → Int32 → Int32
  | 0, _, v => v
  | d + 1, pos, v => if so By n pos = 2 then vl By n b d (pos + 1) (if pos - b < 2 then 10 * v + By pos - 48 else v) else v
def tS (By : Nat → Int32) (n pos : Nat) : Nat := skp By (n - pos) pos
def tE (By : Nat → Int32) (n st : Nat) : Nat := if so By n st = 1 then rn By n 1 (n - st) st else if so By n st = 2 then rn By n 2 (n - st) st else if so By n st = 3 then st + 1 else st
def tV (By : Nat → Int32) (n st : Nat) : Int32 := vl By n st (n - st) st 0
def bad (By : Nat → Int32) (n st : Nat) : Prop := so By n st = 4 ∨ (so By n st = 2 ∧ 2 < tE By n st - st)
theorem so_le (pos : Nat) : so By n pos ≤ 4 := by
  unfold so
  split
  · omega
  · split
    · omega
    · split
      · omega
      · split <;> omega
theorem so_end {pos : Nat} : so By n pos = 0 ↔ n ≤ pos := by
  unfold so
  by_cases c : n ≤ pos
  · rw [if_pos c]; exact ⟨fun _ => c, fun _ => rfl⟩
  · rw [if_neg c]
    refine ⟨fun z => ?_, fun z => absurd z c⟩
    split at z
    · omega
    · split at z
      · omega
      · split at z <;> omega
theorem skp_b : ∀ (d pos : Nat), pos ≤ skp By d pos ∧ skp By d pos ≤ pos + d := by
  intro d
  induction d with
  | zero => intro pos; exact ⟨Nat.le_refl _, Nat.le_refl _⟩
  | succ d ih =>
    intro pos
    rw [skp]
    have := ih (pos + 1)
    split <;> omega
theorem rn_b {k : Nat} : ∀ (d pos : Nat), pos ≤ rn By n k d pos ∧ rn By n k d pos ≤ pos + d := by
  intro d
  induction d with
  | zero => intro pos; exact ⟨Nat.le_refl _, Nat.le_refl _⟩
  | succ d ih =>
    intro pos
    rw [rn]
    have := ih (pos + 1)
    split <;> omega
theorem tS_b {pos : Nat} (h : pos ≤ n) : pos ≤ tS By n pos ∧ tS By n pos ≤ n := by
  have := skp_b (By := By) (n - pos) pos
  unfold tS
  omega
theorem rn_1 {k st : Nat} (hs : st < n) (h : so By n st = k) : st + 1 ≤ rn By n k (n - st) st := by
  obtain ⟨d, hd⟩ : ∃ d, n - st = d + 1 := ⟨n - st - 1, by omega⟩
  rw [hd, rn, if_pos h]
  exact (rn_b d (st + 1)).1
theorem tE_b {st : Nat} (h : st ≤ n) : st ≤ tE By n st ∧ tE By n st ≤ n ∧ (so By n st ≠ 0 → so By n st ≠ 4 → st < tE By n st) := by
  unfold tE
  have e0 := so_end (By := By) (n := n) (pos := st)
  have l4 := so_le (By := By) (n := n) st
  by_cases c1 : so By n st = 1
  · rw [if_pos c1]
    have a := rn_b (By := By) (n := n) (k := 1) (n - st) st
    have b := rn_1 (By := By) (n := n) (k := 1) (st := st) (by omega) c1
    refine ⟨by omega, by omega, fun _ _ => by omega⟩
  · rw [if_neg c1]
    by_cases c2 : so By n st = 2
    · rw [if_pos c2]
      have a := rn_b (By := By) (n := n) (k := 2) (n - st) st
      have b := rn_1 (By := By) (n := n) (k := 2) (st := st) (by omega) c2
      refine ⟨by omega, by omega, fun _ _ => by omega⟩
    · rw [if_neg c2]
      by_cases c3 : so By n st = 3
      · rw [if_pos c3]
        refine ⟨by omega, by omega, fun _ _ => by omega⟩
      · rw [if_neg c3]
        exact ⟨by omega, by omega, fun a b => by omega⟩
/-! the class -/
theorem tb_lt {x : Int32} {a b : Int32} {lo hi : Int} (ha : a.toInt = lo) (hb : b.toInt = hi) : (tb x lo hi = 1 ∧ ¬ x < a ∧ ¬ b < x) ∨ (¬ tb x lo hi = 1 ∧ (x < a ∨ (¬ x < a ∧ b < x))) := by
  rcases tb_cases x lo hi with ⟨t, t1, t2⟩ | ⟨t, t1⟩
  · left
    refine ⟨t, fun z => ?_, fun z => ?_⟩
    · have := Int32.lt_iff_toInt_lt.mp z; omega
    · have := Int32.lt_iff_toInt_lt.mp z; omega
  · right
    refine ⟨fun z => absurd (t.symm.trans z) (by decide), ?_⟩
    by_cases c : x < a
    · exact Or.inl c
    · refine Or.inr ⟨c, ?_⟩
      have c' := Int32.le_iff_toInt_le.mp (Int32.not_lt.mp c)
      refine Int32.lt_iff_toInt_lt.mpr ?_
      omega
theorem X_sortAt {pos : Nat} (hn : n ≤ 160) (hp : pos ≤ n) : f_X3_sortAt By (nI n) (nI pos) = some (nI (so By n pos)) := by
  unfold f_X3_sortAt so
  by_cases c : n ≤ pos
  · rw [if_neg (nI_nlt c (by omega)), if_pos c]; rfl
  · rw [if_pos (nI_lt (by omega) (by omega)), if_neg c, rd_nI (by omega) (by omega), b1_some]
    have h59 : f_X3_sortAt_B45 (By pos) = some (nI (if By pos = 59 then 3 else 4)) := by
      unfold f_X3_sortAt_B45
      by_cases z : By pos = 59
      · rw [if_pos z, if_pos z]; rfl
      · rw [if_neg z, if_neg z]; rfl
    have h48 : f_X3_sortAt_B31 (By pos) = some (nI (if tb (By pos) 48 57 = 1 then 2 else if By pos = 59 then 3 else 4)) := by
      unfold f_X3_sortAt_B31
      rcases tb_lt (x := By pos) (a := 48) (b := 57) (lo := 48) (hi := 57) rfl rfl with ⟨t, t1, t2⟩ | ⟨t, t1 | ⟨t1, t2⟩⟩
      · rw [if_neg t1, if_neg t2, if_pos t]; rfl
      · rw [if_pos t1, if_neg t]; exact h59
      · rw [if_neg t1, if_pos t2, if_neg t]; exact h59
    rcases tb_lt (x := By pos) (a := 97) (b := 122) (lo := 97) (hi := 122) rfl rfl with ⟨t, t1, t2⟩ | ⟨t, t1 | ⟨t1, t2⟩⟩
    · rw [if_neg t1, if_neg t2, if_pos t]; rfl
    · rw [if_pos t1, if_neg t]; exact h48
    · rw [if_neg t1, if_pos t2, if_neg t]; exact h48
theorem X_skip_L (hn : n ≤ 160) : ∀ (d pos m : Nat), pos + d = n → d < m → f_X3_next_L0 By (nI n) m (nI pos) = some (nI (skp By d pos)) := by
  intro d
  induction d with
  | zero =>
    intro pos m hp hm
    obtain ⟨m, rfl⟩ : ∃ t, m = t + 1 := ⟨m - 1, by omega⟩
    rw [f_X3_next_L0, if_pos (nI_le (by omega) (by omega))]; rfl
  | succ d ih =>
    intro pos m hp hm
    obtain ⟨m, rfl⟩ : ∃ t, m = t + 1 := ⟨m - 1, by omega⟩
    rw [f_X3_next_L0, if_neg (nI_ge (by omega) (by omega)), rd_nI (by omega) (by omega), b1_some, nI_1, skp]
    by_cases c : By pos = 32
    · rw [if_pos c, if_pos c]; exact ih (pos + 1) m (by omega) (by omega)
    · rw [if_neg c, if_neg c]
theorem X_run_L (hn : n ≤ 160) {k : Nat} (hk : k ≤ 4) : ∀ (d pos m : Nat), pos + d = n → d < m → f_X3_next_L74 By (nI n) (nI k) m (nI pos) = some (nI (rn By n k d pos)) := by
  intro d
  induction d with
  | zero =>
    intro pos m hp hm
    obtain ⟨m, rfl⟩ : ∃ t, m = t + 1 := ⟨m - 1, by omega⟩
    rw [f_X3_next_L74, if_pos (nI_le (by omega) (by omega))]; rfl
  | succ d ih =>
    intro pos m hp hm
    obtain ⟨m, rfl⟩ : ∃ t, m = t + 1 := ⟨m - 1, by omega⟩
    have l4 := so_le (By := By) (n := n) pos
    rw [f_X3_next_L74, if_neg (nI_ge (by omega) (by omega)), X_sortAt hn (by omega), b1_some, nI_1, rn]
    by_cases c : so By n pos = k
    · rw [if_pos c, if_pos (by rw [c])]; exact ih (pos + 1) m (by omega) (by omega)
    · rw [if_neg c, if_neg (fun z => c ((nI_eq (by omega) (by omega)).mp z))]
theorem X_next {pos : Nat} (hn : n ≤ 160) (hp : pos ≤ n) (Ff Fp : Int32) : (bad By n (tS By n pos) ∧ ∃ a b c, f_X3_next By (nI n) Ff Fp (nI pos) = some (0, 1, nI (tS By n pos), a, b, c)) ∨ (¬ bad By n (tS By n pos) ∧ f_X3_next By (nI n) Ff Fp (nI pos) = some (1, Ff, Fp, nI (tE By n (tS By n pos)), nI (so By n (tS By n pos)), nI (tS By n pos))) := by
  have hs := tS_b (By := By) hp
  have he := tE_b (By := By) hs.2
  have e1 := X_skip_L (By := By) hn (n - pos) pos 400 (by omega) (by omega)
  have l4 := so_le (By := By) (n := n) (tS By n pos)
  have e1' : f_X3_next_L0 By (nI n) 400 (nI pos) = some (nI (tS By n pos)) := e1
  unfold f_X3_next f_X3_next_B170 f_X3_fail
  rw [e1', b1_some, X_sortAt hn hs.2, b1_some]
  have eE : (if nI (so By n (tS By n pos)) = 1 then b1 (f_X3_next_L74 By (nI n) (nI (so By n (tS By n pos))) 400 (nI (tS By n pos))) fun x => some x else if nI (so By n (tS By n pos)) = 2 then b1 (f_X3_next_L74 By (nI n) (nI (so By n (tS By n pos))) 400 (nI (tS By n pos))) fun x => some x else if nI (so By n (tS By n pos)) = 3 then some (nI (tS By n pos) + 1) else some (nI (tS By n pos))) = some (nI (tE By n (tS By n pos))) := by
    unfold tE
    have q1 : nI (so By n (tS By n pos)) = 1 ↔ so By n (tS By n pos) = 1 := nI_eq (b := 1) (by omega) (by omega)
    have q2 : nI (so By n (tS By n pos)) = 2 ↔ so By n (tS By n pos) = 2 := nI_eq (b := 2) (by omega) (by omega)
    have q3 : nI (so By n (tS By n pos)) = 3 ↔ so By n (tS By n pos) = 3 := nI_eq (b := 3) (by omega) (by omega)
    have q4 : nI (so By n (tS By n pos)) = 4 ↔ so By n (tS By n pos) = 4 := nI_eq (b := 4) (by omega) (by omega)
    by_cases c1 : so By n (tS By n pos) = 1
    · rw [if_pos (q1.mpr c1), if_pos c1, c1, X_run_L hn (by omega) (n - tS By n pos) _ 400 (by omega) (by omega), b1_some]
    · rw [if_neg (fun z => c1 (q1.mp z)), if_neg c1]
      by_cases c2 : so By n (tS By n pos) = 2
      · rw [if_pos (q2.mpr c2), if_pos c2, c2, X_run_L hn (by omega) (n - tS By n pos) _ 400 (by omega) (by omega), b1_some]
      · rw [if_neg (fun z => c2 (q2.mp z)), if_neg c2]
        by_cases c3 : so By n (tS By n pos) = 3
        · rw [if_pos (q3.mpr c3), if_pos c3, nI_1]
        · rw [if_neg (fun z => c3 (q3.mp z)), if_neg c3]
  rw [eE, b1_some, pk_sub he.1]
  have q1 : nI (so By n (tS By n pos)) = 1 ↔ so By n (tS By n pos) = 1 := nI_eq (b := 1) (by omega) (by omega)
  have q2 : nI (so By n (tS By n pos)) = 2 ↔ so By n (tS By n pos) = 2 := nI_eq (b := 2) (by omega) (by omega)
  have q3 : nI (so By n (tS By n pos)) = 3 ↔ so By n (tS By n pos) = 3 := nI_eq (b := 3) (by omega) (by omega)
  have q4 : nI (so By n (tS By n pos)) = 4 ↔ so By n (tS By n pos) = 4 := nI_eq (b := 4) (by omega) (by omega)
  have e2 : (2 : Int32) = nI 2 := rfl
  have e4 : (4 : Int32) = nI 4 := rfl
  unfold bad
  by_cases c4 : so By n (tS By n pos) = 4
  · left
    refine ⟨Or.inl c4, ?_⟩
    rw [if_neg (fun z => by have := q2.mp z; omega), b1_some, if_pos (q4.mpr c4), b3_some, if_pos rfl]
    exact ⟨_, _, _, rfl⟩
  · have c4' : ¬ nI (so By n (tS By n pos)) = 4 := fun z => c4 (q4.mp z)
    by_cases c2 : so By n (tS By n pos) = 2
    · rw [if_pos (q2.mpr c2)]
      by_cases cl : tE By n (tS By n pos) - tS By n pos ≤ 2
      · right
        rw [if_pos (show nI (tE By n (tS By n pos) - tS By n pos) ≤ 2 from nI_le (b := 2) cl (by omega)), b1_some, if_neg c4', if_pos rfl]
        exact ⟨by omega, rfl⟩
      · left
        rw [if_neg (show ¬ nI (tE By n (tS By n pos) - tS By n pos) ≤ 2 from nI_ge (a := 2) (by omega) (by omega)), b1_some, if_neg c4', if_neg n10, b3_some, if_pos rfl]
        exact ⟨by omega, _, _, _, rfl⟩
    · right
      rw [if_neg (fun z => c2 (q2.mp z)), b1_some, if_neg c4', if_pos rfl]
      exact ⟨by omega, rfl⟩
/-! the reference -/
def bA (By : Nat → Int32) (n pos : Nat) : Int32 := if n ≤ pos then -1 else By pos
theorem M_byteAt {pos : Nat} (hn : n ≤ 160) (hp : pos < 2 ^ 20) (h : ∀ i, i < n → tape i = By i) : f_X8_byteAt tape (nI n) (nI pos) = some (bA By n pos) := by
  unfold f_X8_byteAt bA
  by_cases c : n ≤ pos
  · rw [if_pos (nI_le c (by omega)), if_pos c]
  · rw [if_neg (nI_ge (by omega) (by omega)), if_neg c, rd_nI (by omega) (by omega), b1_some, h pos (by omega)]
theorem M_skip_L (hn : n ≤ 160) (h : ∀ i, i < n → tape i = By i) : ∀ (d pos m : Nat), pos + d = n → d < m → f_X8_takes_L8 tape (nI n) m (nI pos) = some (nI (skp By d pos)) := by
  intro d
  induction d with
  | zero =>
    intro pos m hp hm
    obtain ⟨m, rfl⟩ : ∃ t, m = t + 1 := ⟨m - 1, by omega⟩
    have eb : bA By n pos = -1 := by unfold bA; rw [if_pos (by omega)]
    rw [f_X8_takes_L8, M_byteAt hn (by omega) h, b1_some, eb, if_neg (by decide)]; rfl
  | succ d ih =>
    intro pos m hp hm
    obtain ⟨m, rfl⟩ : ∃ t, m = t + 1 := ⟨m - 1, by omega⟩
    have eb : bA By n pos = By pos := by unfold bA; rw [if_neg (by omega)]
    rw [f_X8_takes_L8, M_byteAt hn (by omega) h, b1_some, nI_1, skp, eb]
    by_cases c : By pos = 32
    · rw [if_pos c, if_pos c]; exact ih (pos + 1) m (by omega) (by omega)
    · rw [if_neg c, if_neg c]
theorem so_1 {pos : Nat} : so By n pos = 1 ↔ tb (bA By n pos) 97 122 = 1 := by
  unfold so bA
  by_cases c : n ≤ pos
  · rw [if_pos c, if_pos c]; exact ⟨fun z => by omega, fun z => absurd z (by decide)⟩
  · rw [if_neg c, if_neg c]
    by_cases t : tb (By pos) 97 122 = 1
    · rw [if_pos t]; exact ⟨fun _ => t, fun _ => rfl⟩
    · rw [if_neg t]
      refine ⟨fun z => ?_, fun z => absurd z t⟩
      split at z
      · omega
      · split at z <;> omega
theorem so_2 {pos : Nat} : so By n pos = 2 ↔ tb (bA By n pos) 97 122 ≠ 1 ∧ tb (bA By n pos) 48 57 = 1 := by
  unfold so bA
  by_cases c : n ≤ pos
  · rw [if_pos c, if_pos c]; exact ⟨fun z => by omega, fun z => absurd z.2 (by decide)⟩
  · rw [if_neg c, if_neg c]
    by_cases t : tb (By pos) 97 122 = 1
    · rw [if_pos t]; exact ⟨fun z => by omega, fun z => absurd t z.1⟩
    · rw [if_neg t]
      by_cases t2 : tb (By pos) 48 57 = 1
      · rw [if_pos t2]; exact ⟨fun _ => ⟨t, t2⟩, fun _ => rfl⟩
      · rw [if_neg t2]
        refine ⟨fun z => ?_, fun z => absurd z.2 t2⟩
        split at z <;> omega
theorem tb_excl {x : Int32} (h : tb x 48 57 = 1) : tb x 97 122 ≠ 1 := by
  rcases tb_cases x 48 57 with ⟨-, a, b⟩ | ⟨t, -⟩
  · intro z
    rcases tb_cases x 97 122 with ⟨-, a', b'⟩ | ⟨t, -⟩
    · omega
    · rw [t] at z; cases z
  · rw [t] at h; cases h
theorem so_2' {pos : Nat} : so By n pos = 2 ↔ tb (bA By n pos) 48 57 = 1 := by
  rw [so_2]; exact ⟨fun z => z.2, fun z => ⟨tb_excl z, z⟩⟩
theorem tb01' (x : Int32) (lo hi : Int) : tb x lo hi = 0 ↔ ¬ tb x lo hi = 1 := by
  rcases tb_cases x lo hi with ⟨t, -⟩ | ⟨t, -⟩ <;> rw [t] <;> decide
theorem M_run1_L (hn : n ≤ 160) (h : ∀ i, i < n → tape i = By i) : ∀ (d pos m : Nat), pos + d = n → d < m → f_X8_takes_L82 tape (nI n) m (nI pos) = some (nI (rn By n 1 d pos)) := by
  intro d
  induction d with
  | zero =>
    intro pos m hp hm
    obtain ⟨m, rfl⟩ : ∃ t, m = t + 1 := ⟨m - 1, by omega⟩
    rw [f_X8_takes_L82, M_byteAt hn (by omega) h, b1_some, M_in _ 97 122 rfl rfl, b1_some]
    have : ¬ so By n pos = 1 := fun z => by have := so_end (By := By) (n := n) (pos := pos); omega
    rw [if_pos ((tb01' _ _ _).mpr (fun z => this (so_1.mpr z)))]; rfl
  | succ d ih =>
    intro pos m hp hm
    obtain ⟨m, rfl⟩ : ∃ t, m = t + 1 := ⟨m - 1, by omega⟩
    rw [f_X8_takes_L82, M_byteAt hn (by omega) h, b1_some, M_in _ 97 122 rfl rfl, b1_some, nI_1, rn]
    by_cases c : so By n pos = 1
    · rw [if_pos c, so_1.mp c, if_neg n10]; exact ih (pos + 1) m (by omega) (by omega)
    · rw [if_neg c, if_pos ((tb01' _ _ _).mpr (fun z => c (so_1.mpr z)))]
theorem M_run2_L (hn : n ≤ 160) (h : ∀ i, i < n → tape i = By i) {b : Nat} : ∀ (d pos : Nat) (v : Int32) (m : Nat), pos + d = n → d < m → b ≤ pos → f_X8_takes_L140 tape (nI n) (nI b) m (nI pos) v = some (nI (rn By n 2 d pos), vl By n b d pos v) := by
  intro d
  induction d with
  | zero =>
    intro pos v m hp hm hb
    obtain ⟨m, rfl⟩ : ∃ t, m = t + 1 := ⟨m - 1, by omega⟩
    rw [f_X8_takes_L140, M_byteAt hn (by omega) h, b1_some, M_in _ 48 57 rfl rfl, b1_some]
    have : ¬ so By n pos = 2 := fun z => by have := so_end (By := By) (n := n) (pos := pos); omega
    rw [if_pos ((tb01' _ _ _).mpr (fun z => this (so_2'.mpr z)))]; rfl
  | succ d ih =>
    intro pos v m hp hm hb
    obtain ⟨m, rfl⟩ : ∃ t, m = t + 1 := ⟨m - 1, by omega⟩
    rw [f_X8_takes_L140, M_byteAt hn (by omega) h, b1_some, M_in _ 48 57 rfl rfl, b1_some, nI_1, rn, vl, pk_sub hb, b1_some]
    by_cases c : so By n pos = 2
    · have eb : bA By n pos = By pos := by unfold bA; rw [if_neg (by omega)]
      rw [if_pos c, if_pos c, so_2'.mp c, if_neg n10, eb]
      by_cases c2 : pos - b < 2
      · rw [if_neg (show ¬ (2 : Int32) ≤ nI (pos - b) from nI_ge (b := 2) c2 (by omega)), b1_some, if_pos c2]
        exact ih (pos + 1) _ m (by omega) (by omega) (by omega)
      · rw [if_pos (show (2 : Int32) ≤ nI (pos - b) from nI_le (a := 2) (by omega) (by omega)), b1_some, if_neg c2]
        exact ih (pos + 1) _ m (by omega) (by omega) (by omega)
    · rw [if_neg c, if_neg c, if_pos ((tb01' _ _ _).mpr (fun z => c (so_2'.mpr z)))]
theorem needs_ok {b f w : Int32} (c : Int32) : f_X8_needs b f w 1 c = some (f, w) := by
  unfold f_X8_needs; rw [if_neg n10]
theorem needs_no {b w : Int32} (c : Int32) : f_X8_needs b 0 w 0 c = some (c, b) := by
  unfold f_X8_needs; rw [if_pos rfl, if_pos rfl]
theorem needs_f {b f w x : Int32} (hf : ¬ f = 0) (c : Int32) : f_X8_needs b f w x c = some (f, w) := by
  unfold f_X8_needs
  by_cases z : x = 0
  · rw [if_pos z, if_neg hf]
  · rw [if_neg z]
theorem takes_f {pos bg s v f w : Int32} (hf : ¬ f ≤ 0) : f_X8_takes tape (nI n) pos bg s v f w = some (pos, bg, s, v, f, w) := by
  unfold f_X8_takes; rw [if_neg hf]
theorem looked_f {bg s v f w lo hi : Int32} (hf : ¬ f = 0) : f_X8_looked bg s v f w lo hi = some (0, f, w) := by
  unfold f_X8_looked
  simp only [if_neg hf, b2_some]
theorem M_takes {pos : Nat} (hn : n ≤ 160) (h : ∀ i, i < n → tape i = By i ∧ ∃ c, c ≤ 127 ∧ By i = nI c) (hp : pos ≤ n) (bg s v w : Int32) : (bad By n (tS By n pos) → ∃ a b c d, f_X8_takes tape (nI n) (nI pos) bg s v 0 w = some (a, b, c, d, 1, nI (tS By n pos))) ∧ (¬ bad By n (tS By n pos) → f_X8_takes tape (nI n) (nI pos) bg s v 0 w = some (nI (tE By n (tS By n pos)), nI (tS By n pos), nI (so By n (tS By n pos)), if so By n (tS By n pos) = 2 then tV By n (tS By n pos) else v, 0, w)) := by
  have h1 : ∀ i, i < n → tape i = By i := fun i hi => (h i hi).1
  have hs := tS_b (By := By) hp
  have he := tE_b (By := By) hs.2
  have e1 := M_skip_L hn h1 (n - pos) pos 400 (by omega) (by omega)
  have e1' : f_X8_takes_L8 tape (nI n) 400 (nI pos) = some (nI (tS By n pos)) := e1
  unfold f_X8_takes
  rw [if_pos (by decide), e1', b1_some, M_byteAt hn (by omega) h1, b1_some]
  generalize hst : tS By n pos = st at hs he ⊢
  by_cases c0 : n ≤ st
  · have z0 : so By n st = 0 := so_end.mpr c0
    have nb : ¬ bad By n st := by unfold bad; omega
    refine ⟨fun z => absurd z nb, fun _ => ?_⟩
    have eb : bA By n st = -1 := by unfold bA; rw [if_pos c0]
    have eE : tE By n st = st := by
      unfold tE; rw [z0]; rfl
    rw [eb, if_neg (by decide), z0, eE]; rfl
  · obtain ⟨-, c, hc, ec⟩ := h st (by omega)
    have eb : bA By n st = By st := by unfold bA; rw [if_neg c0]
    rw [eb, ec, if_pos (nI_pos' (by omega)), ← ec, M_in _ 97 122 rfl rfl, b1_some, M_in _ 48 57 rfl rfl, b1_some]
    have z0 : so By n st ≠ 0 := fun z => c0 (so_end.mp z)
    by_cases c1 : so By n st = 1
    · have nb : ¬ bad By n st := by unfold bad; omega
      refine ⟨fun z => absurd z nb, fun _ => ?_⟩
      have t1 := so_1.mp c1
      rw [eb] at t1
      have eE : tE By n st = rn By n 1 (n - st) st := by unfold tE; rw [if_pos c1]
      rw [t1, if_neg n10, M_run1_L hn h1 (n - st) st 400 (by omega) (by omega), b1_some, eE, c1]; rfl
    · have t1 : ¬ tb (By st) 97 122 = 1 := fun z => c1 (so_1.mpr (by rw [eb]; exact z))
      rw [(tb01' _ _ _).mpr t1, if_pos rfl]
      by_cases c2 : so By n st = 2
      · have t2 := so_2'.mp c2
        rw [eb] at t2
        have eE : tE By n st = rn By n 2 (n - st) st := by unfold tE; rw [if_neg c1, if_pos c2]
        rw [t2, if_neg n10, M_run2_L hn h1 (n - st) st 0 400 (by omega) (by omega) (Nat.le_refl _), b2_some, ← eE, pk_sub he.1]
        by_cases cl : 2 < tE By n st - st
        · refine ⟨fun _ => ?_, fun z => absurd (Or.inr ⟨c2, cl⟩) z⟩
          rw [if_pos (show (2 : Int32) < nI (tE By n st - st) from nI_lt (a := 2) cl (by omega)), b1_some, needs_no, b2_some]
          exact ⟨_, _, _, _, rfl⟩
        · refine ⟨fun z => ?_, fun _ => ?_⟩
          · unfold bad at z; omega
          · rw [if_neg (show ¬ (2 : Int32) < nI (tE By n st - st) from nI_nlt (a := 2) (by omega) (by omega)), b1_some, needs_ok, b2_some, c2]; rfl
      · have t2 : ¬ tb (By st) 48 57 = 1 := fun z => c2 (so_2'.mpr (by rw [eb]; exact z))
        rw [(tb01' _ _ _).mpr t2, if_pos rfl]
        have es : so By n st = if By st = 59 then 3 else 4 := by
          unfold so; rw [if_neg c0, if_neg t1, if_neg t2]
        by_cases c3 : By st = 59
        · rw [if_pos c3] at es ⊢
          have nb : ¬ bad By n st := by unfold bad; omega
          refine ⟨fun z => absurd z nb, fun _ => ?_⟩
          have eE : tE By n st = st + 1 := by unfold tE; rw [if_neg c1, if_neg c2, if_pos es]
          rw [b1_some, needs_ok, b2_some, eE, es, nI_1]; rfl
        · rw [if_neg c3] at es ⊢
          refine ⟨fun _ => ?_, fun z => absurd (Or.inl es) z⟩
          rw [b1_some, needs_no, b2_some]
          exact ⟨_, _, _, _, rfl⟩
end E17
