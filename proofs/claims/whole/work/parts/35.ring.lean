/-! ===== L2: rings ===== -/
section E15
variable {P : Nat} {De : Nat → Int32}
/-- place i of the n figures of m, to the base P -/
def dg (P n m i : Nat) : Nat := m / P ^ (n - 1 - i) % P
def Gd (P n : Nat) (De : Nat → Int32) (m : Nat) : Prop := (∀ i, i < n → dg P n m 0 ≤ dg P n m i) ∧ (∀ i j, i < j → j < n → dg P n m i ≠ dg P n m j) ∧ ∀ i, i < n → 0 < De (5 * dg P n m i + dg P n m ((i + 1) % n))
def Vp (P k : Nat) (De : Nat → Int32) (pre : Nat) : Prop := (∀ i, i < k → dg P k pre 0 ≤ dg P k pre i) ∧ (∀ i j, i < j → j < k → dg P k pre i ≠ dg P k pre j) ∧ ∀ i, i + 1 < k → 0 < De (5 * dg P k pre i + dg P k pre (i + 1))
theorem dg_lt (h : 0 < P) {n m i : Nat} : dg P n m i < P := Nat.mod_lt _ h
theorem dg_blk {k n x pre i : Nat} (hk : k ≤ n) (hi : i < k) (h : x / P ^ (n - k) = pre) : dg P n x i = dg P k pre i := by
  unfold dg
  rw [← h, Nat.div_div_eq_div_mul, ← Nat.pow_add]
  have : n - k + (k - 1 - i) = n - 1 - i := by omega
  rw [this]
theorem dg_ext {k pre q i : Nat} (hq : q < P) (hi : i < k) : dg P (k + 1) (pre * P + q) i = dg P k pre i := by
  refine dg_blk (by omega) hi ?_
  have e : k + 1 - k = 1 := by omega
  rw [e, Nat.pow_one, Nat.mul_comm, Nat.mul_add_div (by omega), Nat.div_eq_of_lt hq, Nat.add_zero]
theorem dg_end {k pre q : Nat} (hq : q < P) : dg P (k + 1) (pre * P + q) k = q := by
  unfold dg
  have e : k + 1 - 1 - k = 0 := by omega
  rw [e, Nat.pow_zero, Nat.div_one, Nat.mul_comm, Nat.mul_add_mod, Nat.mod_eq_of_lt hq]
/-- a block's number from the block of one figure more -/
theorem blk_up {k n x : Nat} (hk : k < n) : x / P ^ (n - k) = x / P ^ (n - (k + 1)) / P := by
  rw [Nat.div_div_eq_div_mul, ← Nat.pow_succ]
  have : (n - (k + 1)).succ = n - k := by omega
  rw [this]
theorem blk_split {k n x pre : Nat} (hk : k < n) (h : x / P ^ (n - k) = pre) : x / P ^ (n - (k + 1)) = pre * P + dg P n x k := by
  have e : n - 1 - k = n - (k + 1) := by omega
  unfold dg
  rw [e, ← h, blk_up hk]
  have := Nat.div_add_mod (x / P ^ (n - (k + 1))) P
  rw [Nat.mul_comm] at this
  exact this.symm
def FoundIn (P n k : Nat) (De : Nat → Int32) (pre m : Nat) : Prop := m / P ^ (n - k) = pre ∧ Gd P n De m ∧ ∀ x, x / P ^ (n - k) = pre → x < m → ¬ Gd P n De x
def NoneIn (P n k : Nat) (De : Nat → Int32) (pre : Nat) : Prop := ∀ x, x / P ^ (n - k) = pre → ¬ Gd P n De x
def ClOK (P n k : Nat) (De : Nat → Int32) (f : (Nat → Int32) → Option (Int32 × (Nat → Int32))) : Prop := ∀ (row : Nat → Int32) (pre : Nat), (∀ i, i < k → row i = nI (dg P k pre i)) → Vp P k De pre → (∃ row' m, f row = some (1, row') ∧ FoundIn P n k De pre m ∧ ∀ i, i < n → row' i = nI (dg P n m i)) ∨ (∃ row', f row = some (0, row') ∧ NoneIn P n k De pre ∧ ∀ i, i < k → row' i = row i)
theorem stands_L {k q : Nat} {row : Nat → Int32} {r : Nat → Nat} (hk : k ≤ 5) (hq : q < 5) (hr : ∀ i, i < k → row i = nI (r i) ∧ r i < 5) : ∀ (d i n : Nat), i + d = k → d < n → (f_X4_stands_L2 row (nI q) (nI k) n (nI i) = some (Sum.inl 1) ∧ ∃ j, i ≤ j ∧ j < k ∧ r j = q) ∨ (f_X4_stands_L2 row (nI q) (nI k) n (nI i) = some (Sum.inr ()) ∧ ∀ j, i ≤ j → j < k → r j ≠ q) := by
  intro d
  induction d with
  | zero =>
    intro i n hi hn
    obtain ⟨n, rfl⟩ : ∃ m, n = m + 1 := ⟨n - 1, by omega⟩
    right
    rw [f_X4_stands_L2, if_pos (nI_le (by omega) (by omega))]
    exact ⟨rfl, fun j h1 h2 => absurd h2 (by omega)⟩
  | succ d ih =>
    intro i n hi hn
    obtain ⟨n, rfl⟩ : ∃ m, n = m + 1 := ⟨n - 1, by omega⟩
    obtain ⟨e1, e2⟩ := hr i (by omega)
    rw [f_X4_stands_L2, if_neg (nI_ge (by omega) (by omega)), rd_nI (by omega) (by omega), b1_some, e1, nI_1]
    by_cases c : r i = q
    · rw [if_pos (by rw [c])]
      exact Or.inl ⟨rfl, i, Nat.le_refl i, by omega, c⟩
    · rw [if_neg (fun z => c ((nI_eq (by omega) (by omega)).mp z))]
      rcases ih (i + 1) n (by omega) (by omega) with ⟨h1, j, h2, h3, h4⟩ | ⟨h1, h2⟩
      · exact Or.inl ⟨h1, j, by omega, h3, h4⟩
      · refine Or.inr ⟨h1, fun j a b => ?_⟩
        by_cases cj : j = i
        · subst cj; exact c
        · exact h2 j (by omega) b
theorem stands_eq {k q : Nat} {row : Nat → Int32} {r : Nat → Nat} (hk : k ≤ 5) (hq : q < 5) (hr : ∀ i, i < k → row i = nI (r i) ∧ r i < 5) : (f_X4_stands row (nI q) (nI k) = some 1 ∧ ∃ j, j < k ∧ r j = q) ∨ (f_X4_stands row (nI q) (nI k) = some 0 ∧ ∀ j, j < k → r j ≠ q) := by
  unfold f_X4_stands
  rcases stands_L hk hq hr k 0 400 (by omega) (by omega) with ⟨h1, j, h2, h3, h4⟩ | ⟨h1, h2⟩
  · rw [nI_0] at h1
    rw [h1]; exact Or.inl ⟨rfl, j, h3, h4⟩
  · rw [nI_0] at h1
    rw [h1]; exact Or.inr ⟨rfl, fun j hj => h2 j (by omega) hj⟩
theorem cl_loop {k n : Nat} (h0 : 0 < P) (hP : P ≤ 5) (hk0 : 0 < k) (hk : k < n) (hn : n ≤ 5) {F : (Nat → Int32) → Option (Int32 × (Nat → Int32))} (hF : ClOK P n (k + 1) De F) {pre : Nat} (hV : Vp P k De pre) {L : Nat → Int32 → (Nat → Int32) → Option ((Int32 × (Nat → Int32)) ⊕ (Nat → Int32))}
    (hL : ∀ m q row, L (m + 1) q row = if nI P ≤ q then some (Sum.inr row) else b1 (f_X1_debt De (nI (dg P k pre (k - 1))) q) fun r => if r ≤ 0 then L m (q + 1) row else b1 (f_X4_stands row q (nI k)) fun r7 => if r7 = 0 then b1 (wr row 5 (nI k) q) fun row8 => b2 (F row8) fun r9 row10 => if r9 = 0 then L m (q + 1) row10 else some (Sum.inl (1, row10)) else L m (q + 1) row) :
    ∀ (d q : Nat) (row : Nat → Int32) (m : Nat), q + d = P → d < m → dg P k pre 0 < q → (∀ i, i < k → row i = nI (dg P k pre i)) → (∀ x, x / P ^ (n - k) = pre → dg P n x k < q → ¬ Gd P n De x) → (∃ row' y, L m (nI q) row = some (Sum.inl (1, row')) ∧ FoundIn P n k De pre y ∧ ∀ i, i < n → row' i = nI (dg P n y i)) ∨ (∃ row', L m (nI q) row = some (Sum.inr row') ∧ NoneIn P n k De pre ∧ ∀ i, i < k → row' i = nI (dg P k pre i)) := by
  intro d
  induction d with
  | zero =>
    intro q row m hq hm hq0 hr hi
    obtain ⟨m, rfl⟩ : ∃ t, m = t + 1 := ⟨m - 1, by omega⟩
    right
    rw [hL, if_pos (nI_le (by omega) (by omega))]
    refine ⟨row, rfl, fun x hx => hi x hx ?_, hr⟩
    have := dg_lt h0 (n := n) (m := x) (i := k)
    omega
  | succ d ih =>
    intro q row m hq hm hq0 hr hi
    obtain ⟨m, rfl⟩ : ∃ t, m = t + 1 := ⟨m - 1, by omega⟩
    have hlast := dg_lt h0 (n := k) (m := pre) (i := k - 1)
    have next : (∀ x, x / P ^ (n - k) = pre → dg P n x k = q → ¬ Gd P n De x) → ∀ x, x / P ^ (n - k) = pre → dg P n x k < q + 1 → ¬ Gd P n De x := by
      intro hh x hx hlt
      by_cases c : dg P n x k = q
      · exact hh x hx c
      · exact hi x hx (by omega)
    rw [hL, if_neg (nI_ge (by omega) (by omega)), X_debt (by omega) (by omega), b1_some, nI_1]
    by_cases c : De (5 * dg P k pre (k - 1) + q) ≤ 0
    · rw [if_pos c]
      refine ih (q + 1) row m (by omega) (by omega) (by omega) hr (next (fun x hx e g => ?_))
      have := g.2.2 (k - 1) (by omega)
      have e1 : (k - 1 + 1) % n = k := by rw [show k - 1 + 1 = k by omega]; exact Nat.mod_eq_of_lt hk
      rw [e1, e, dg_blk (by omega) (show k - 1 < k by omega) hx] at this
      exact absurd c (Int32.not_le.mpr this)
    · rw [if_neg c]
      have hr5 : ∀ i, i < k → row i = nI (dg P k pre i) ∧ dg P k pre i < 5 := fun i hi => ⟨hr i hi, by have := dg_lt h0 (n := k) (m := pre) (i := i); omega⟩
      rcases stands_eq (k := k) (q := q) (by omega) (by omega) hr5 with ⟨e1, j, hj, ej⟩ | ⟨e1, hj⟩
      · rw [e1, b1_some, if_neg n10]
        refine ih (q + 1) row m (by omega) (by omega) (by omega) hr (next (fun x hx e g => ?_))
        have := g.2.1 j k hj hk
        rw [dg_blk (by omega) hj hx, e] at this
        exact this ej
      · rw [e1, b1_some, if_pos rfl, wr_nI (by omega) (by omega), b1_some]
        have hqP : q < P := by omega
        have hrow : ∀ i, i < k + 1 → upd row k (nI q) i = nI (dg P (k + 1) (pre * P + q) i) := by
          intro i hik
          by_cases ci : i = k
          · subst ci; rw [upd_s, dg_end hqP]
          · rw [upd_n ci, dg_ext hqP (by omega)]; exact hr i (by omega)
        have hV' : Vp P (k + 1) De (pre * P + q) := by
          refine ⟨fun i hik => ?_, fun i j hij hjk => ?_, fun i hik => ?_⟩
          · rw [dg_ext hqP hk0]
            by_cases ci : i = k
            · subst ci; rw [dg_end hqP]; omega
            · rw [dg_ext hqP (by omega)]; exact hV.1 i (by omega)
          · rw [dg_ext hqP (show i < k by omega)]
            by_cases cj : j = k
            · subst cj; rw [dg_end hqP]; exact hj i (by omega)
            · rw [dg_ext hqP (show j < k by omega)]; exact hV.2.1 i j hij (by omega)
          · rw [dg_ext hqP (show i < k by omega)]
            by_cases cj : i + 1 = k
            · have ei : i = k - 1 := by omega
              rw [cj, dg_end hqP, ei]; exact Int32.not_le.mp c
            · rw [dg_ext hqP (show i + 1 < k by omega)]; exact hV.2.2 i (by omega)
        rcases hF (upd row k (nI q)) (pre * P + q) hrow hV' with ⟨row', y, f1, ⟨f2, f3, f4⟩, f5⟩ | ⟨row', f1, f2, f3⟩
        · rw [f1, b2_some, if_neg n10]
          left
          have hy : y / P ^ (n - k) = pre := by
            rw [blk_up hk, f2, Nat.mul_comm, Nat.mul_add_div h0, Nat.div_eq_of_lt hqP, Nat.add_zero]
          refine ⟨row', y, rfl, ⟨hy, f3, fun x hx hlt => ?_⟩, f5⟩
          have sx := blk_split hk hx
          have mono : x / P ^ (n - (k + 1)) ≤ y / P ^ (n - (k + 1)) := Nat.div_le_div_right (Nat.le_of_lt hlt)
          rw [sx, f2] at mono
          by_cases ce : dg P n x k = q
          · rw [ce] at sx; exact f4 x sx hlt
          · exact hi x hx (by omega)
        · rw [f1, b2_some, if_pos rfl]
          refine ih (q + 1) row' m (by omega) (by omega) (by omega) (fun i hik => ?_) (next (fun x hx e => ?_))
          · rw [f3 i (by omega), upd_n (by omega)]; exact hr i hik
          · have sx := blk_split hk hx
            rw [e] at sx
            exact f2 x sx
theorem cl_base {n : Nat} (h0 : 0 < P) (hP : P ≤ 5) (hn0 : 0 < n) (hn : n ≤ 5) : ClOK P n n De (fun row => b1 (rd row 5 (nI (n - 1))) fun a => b1 (rd row 5 0) fun b => b1 (f_X1_debt De a b) fun r => if r ≤ 0 then some (0, row) else some (1, row)) := by
  intro row pre hr hV
  have r0 : rd row 5 0 = some (row 0) := rd_nI (i := 0) (by omega) (by omega)
  have l1 := dg_lt h0 (n := n) (m := pre) (i := n - 1)
  have l2 := dg_lt h0 (n := n) (m := pre) (i := 0)
  have eb : ∀ x, x / P ^ (n - n) = pre ↔ x = pre := by
    intro x; rw [Nat.sub_self, Nat.pow_zero, Nat.div_one]
  simp only
  rw [rd_nI (by omega) (by omega), b1_some, r0, b1_some, hr (n - 1) (by omega), hr 0 (by omega), X_debt (by omega) (by omega), b1_some]
  have e1 : (n - 1 + 1) % n = 0 := by rw [show n - 1 + 1 = n by omega]; exact Nat.mod_self n
  by_cases c : De (5 * dg P n pre (n - 1) + dg P n pre 0) ≤ 0
  · rw [if_pos c]
    right
    refine ⟨row, rfl, fun x hx g => ?_, fun _ _ => rfl⟩
    have ex := (eb x).mp hx
    subst ex
    have := g.2.2 (n - 1) (by omega)
    rw [e1] at this
    exact absurd c (Int32.not_le.mpr this)
  · rw [if_neg c]
    left
    refine ⟨row, pre, rfl, ⟨(eb pre).mpr rfl, ⟨hV.1, hV.2.1, fun i hi => ?_⟩, fun x hx hlt => ?_⟩, hr⟩
    · by_cases ci : i + 1 = n
      · have ei : i = n - 1 := by omega
        rw [ei, e1]; exact Int32.not_le.mp c
      · rw [Nat.mod_eq_of_lt (show i + 1 < n by omega)]; exact hV.2.2 i (by omega)
    · have ex := (eb x).mp hx
      omega
theorem cl_step {k n : Nat} (h0 : 0 < P) (hP : P ≤ 5) (hk0 : 0 < k) (hk : k < n) (hn : n ≤ 5) {F : (Nat → Int32) → Option (Int32 × (Nat → Int32))} (hF : ClOK P n (k + 1) De F) {L : Int32 → Nat → Int32 → (Nat → Int32) → Option ((Int32 × (Nat → Int32)) ⊕ (Nat → Int32))}
    (hL : ∀ a m q row, L a (m + 1) q row = if nI P ≤ q then some (Sum.inr row) else b1 (f_X1_debt De a q) fun r => if r ≤ 0 then L a m (q + 1) row else b1 (f_X4_stands row q (nI k)) fun r7 => if r7 = 0 then b1 (wr row 5 (nI k) q) fun row8 => b2 (F row8) fun r9 row10 => if r9 = 0 then L a m (q + 1) row10 else some (Sum.inl (1, row10)) else L a m (q + 1) row) :
    ClOK P n k De (fun row => b1 (rd row 5 (nI (k - 1))) fun a => b1 (rd row 5 0) fun b => bs1 (L a 400 (b + 1) row) fun row5 => some (0, row5)) := by
  intro row pre hr hV
  have r0 : rd row 5 0 = some (row 0) := rd_nI (i := 0) (by omega) (by omega)
  have l2 := dg_lt h0 (n := k) (m := pre) (i := 0)
  simp only
  rw [rd_nI (by omega) (by omega), b1_some, r0, b1_some, hr (k - 1) (by omega), hr 0 (by omega), nI_1]
  have lp := cl_loop (P := P) (De := De) (pre := pre) h0 hP hk0 hk hn hF hV (L := L (nI (dg P k pre (k - 1)))) (fun m q row => hL _ m q row) (P - (dg P k pre 0 + 1)) (dg P k pre 0 + 1) row 400 (by omega) (by omega) (by omega) hr (fun x hx hlt g => by
    have e0 := dg_blk (P := P) (n := n) (k := k) (i := 0) (by omega) hk0 hx
    have g1 := g.1 k hk
    have g2 := g.2.1 0 k hk0 hk
    omega)
  rcases lp with ⟨row', y, e1, e2, e3⟩ | ⟨row', e1, e2, e3⟩
  · rw [e1]; exact Or.inl ⟨row', y, rfl, e2, e3⟩
  · rw [e1]; exact Or.inr ⟨row', rfl, e2, fun i hi => by rw [e3 i hi, hr i hi]⟩
theorem X_cl5 {n : Nat} (h0 : 0 < P) (hP : P ≤ 5) (hk : 5 ≤ n) (hn : n ≤ 5) : ClOK P n 5 De (fun row => f_X4_closes_5 row (nI n) (nI P) De) := by
  have : n = 5 := by omega
  subst this
  have h := cl_base (P := P) (De := De) (n := 5) h0 hP (by omega) (by omega)
  intro row pre hr hV
  have := h row pre hr hV
  simp only at this ⊢
  unfold f_X4_closes_5
  have c5 : ¬ (5 : Int32) < nI 5 := by decide
  simp only [if_neg c5]
  exact this
theorem X_cl4 {n : Nat} (h0 : 0 < P) (hP : P ≤ 5) (hk : 4 ≤ n) (hn : n ≤ 5) : ClOK P n 4 De (fun row => f_X4_closes_4 row (nI n) (nI P) De) := by
  by_cases c : n = 4
  · subst c
    have h := cl_base (P := P) (De := De) (n := 4) h0 hP (by omega) (by omega)
    intro row pre hr hV
    have := h row pre hr hV
    simp only at this ⊢
    unfold f_X4_closes_4
    have c5 : ¬ (4 : Int32) < nI 4 := by decide
    simp only [if_neg c5]
    exact this
  · have h := cl_step (P := P) (De := De) (k := 4) (n := n) h0 hP (by omega) (by omega) hn (X_cl5 h0 hP (by omega) hn) (L := fun a => f_X4_closes_4_L47 (nI n) (nI P) De a) (fun a m q row => by rw [f_X4_closes_4_L47]; rfl)
    intro row pre hr hV
    have := h row pre hr hV
    simp only at this ⊢
    unfold f_X4_closes_4
    have c5 : (4 : Int32) < nI n := nI_lt (a := 4) (by omega) (by omega)
    simp only [if_pos c5]
    exact this
theorem X_cl3 {n : Nat} (h0 : 0 < P) (hP : P ≤ 5) (hk : 3 ≤ n) (hn : n ≤ 5) : ClOK P n 3 De (fun row => f_X4_closes_3 row (nI n) (nI P) De) := by
  by_cases c : n = 3
  · subst c
    have h := cl_base (P := P) (De := De) (n := 3) h0 hP (by omega) (by omega)
    intro row pre hr hV
    have := h row pre hr hV
    simp only at this ⊢
    unfold f_X4_closes_3
    have c5 : ¬ (3 : Int32) < nI 3 := by decide
    simp only [if_neg c5]
    exact this
  · have h := cl_step (P := P) (De := De) (k := 3) (n := n) h0 hP (by omega) (by omega) hn (X_cl4 h0 hP (by omega) hn) (L := fun a => f_X4_closes_3_L47 (nI n) (nI P) De a) (fun a m q row => by rw [f_X4_closes_3_L47]; rfl)
    intro row pre hr hV
    have := h row pre hr hV
    simp only at this ⊢
    unfold f_X4_closes_3
    have c5 : (3 : Int32) < nI n := nI_lt (a := 3) (by omega) (by omega)
    simp only [if_pos c5]
    exact this
theorem X_cl2 {n : Nat} (h0 : 0 < P) (hP : P ≤ 5) (hk : 2 ≤ n) (hn : n ≤ 5) : ClOK P n 2 De (fun row => f_X4_closes_2 row (nI n) (nI P) De) := by
  by_cases c : n = 2
  · subst c
    have h := cl_base (P := P) (De := De) (n := 2) h0 hP (by omega) (by omega)
    intro row pre hr hV
    have := h row pre hr hV
    simp only at this ⊢
    unfold f_X4_closes_2
    have c5 : ¬ (2 : Int32) < nI 2 := by decide
    simp only [if_neg c5]
    exact this
  · have h := cl_step (P := P) (De := De) (k := 2) (n := n) h0 hP (by omega) (by omega) hn (X_cl3 h0 hP (by omega) hn) (L := fun a => f_X4_closes_2_L47 (nI n) (nI P) De a) (fun a m q row => by rw [f_X4_closes_2_L47]; rfl)
    intro row pre hr hV
    have := h row pre hr hV
    simp only at this ⊢
    unfold f_X4_closes_2
    have c5 : (2 : Int32) < nI n := nI_lt (a := 2) (by omega) (by omega)
    simp only [if_pos c5]
    exact this
theorem X_cl1 {n : Nat} (h0 : 0 < P) (hP : P ≤ 5) (hk : 1 ≤ n) (hn : n ≤ 5) : ClOK P n 1 De (fun row => f_X4_closes_1 row (nI n) (nI P) De) := by
  by_cases c : n = 1
  · subst c
    have h := cl_base (P := P) (De := De) (n := 1) h0 hP (by omega) (by omega)
    intro row pre hr hV
    have := h row pre hr hV
    simp only at this ⊢
    unfold f_X4_closes_1
    have c5 : ¬ (1 : Int32) < nI 1 := by decide
    simp only [if_neg c5]
    exact this
  · have h := cl_step (P := P) (De := De) (k := 1) (n := n) h0 hP (by omega) (by omega) hn (X_cl2 h0 hP (by omega) hn) (L := fun a => f_X4_closes_1_L47 (nI n) (nI P) De a) (fun a m q row => by rw [f_X4_closes_1_L47]; rfl)
    intro row pre hr hV
    have := h row pre hr hV
    simp only at this ⊢
    unfold f_X4_closes_1
    have c5 : (1 : Int32) < nI n := nI_lt (a := 1) (by omega) (by omega)
    simp only [if_pos c5]
    exact this
theorem pow_pred {P n : Nat} (h : 0 < n) : P ^ n = P ^ (n - 1) * P := by
  obtain ⟨t, rfl⟩ : ∃ t, n = t + 1 := ⟨n - 1, by omega⟩
  rw [Nat.add_sub_cancel, Nat.pow_succ]
theorem X_find_L {n : Nat} (h0 : 0 < P) (hP : P ≤ 5) (hn0 : 0 < n) (hn : n ≤ 5) : ∀ (d p : Nat) (row : Nat → Int32) (m : Nat), p + d = P → d < m → (∀ x, x / P ^ (n - 1) < p → ¬ Gd P n De x) → (∃ row' y, f_X4_find_L17 (nI P) De (nI n) m (nI p) row = some (Sum.inl (1, row', nI n)) ∧ y < P ^ n ∧ Gd P n De y ∧ (∀ x, x < y → ¬ Gd P n De x) ∧ ∀ i, i < n → row' i = nI (dg P n y i)) ∨ (∃ row', f_X4_find_L17 (nI P) De (nI n) m (nI p) row = some (Sum.inr row') ∧ ∀ x, x < P ^ n → ¬ Gd P n De x) := by
  have hpow : P ^ n = P ^ (n - 1) * P := pow_pred hn0
  have hpp : 0 < P ^ (n - 1) := Nat.pow_pos h0
  intro d
  induction d with
  | zero =>
    intro p row m hp hm hi
    obtain ⟨m, rfl⟩ : ∃ t, m = t + 1 := ⟨m - 1, by omega⟩
    right
    rw [f_X4_find_L17, if_pos (nI_le (by omega) (by omega))]
    refine ⟨row, rfl, fun x hx => hi x ?_⟩
    have : x / P ^ (n - 1) < P := Nat.div_lt_of_lt_mul (by rw [← hpow]; exact hx)
    omega
  | succ d ih =>
    intro p row m hp hm hi
    obtain ⟨m, rfl⟩ : ∃ t, m = t + 1 := ⟨m - 1, by omega⟩
    have w0 : wr row 5 0 (nI p) = some (upd row 0 (nI p)) := wr_nI (i := 0) (by omega) (by omega)
    have d1 : dg P 1 p 0 = p := by
      unfold dg
      rw [show 1 - 1 - 0 = 0 by omega, Nat.pow_zero, Nat.div_one, Nat.mod_eq_of_lt (by omega)]
    rw [f_X4_find_L17, if_neg (nI_ge (by omega) (by omega)), w0, b1_some, nI_1]
    have hrow : ∀ i, i < 1 → upd row 0 (nI p) i = nI (dg P 1 p i) := by
      intro i h1
      have : i = 0 := by omega
      subst this
      rw [upd_s, d1]
    have hV : Vp P 1 De p := by
      refine ⟨fun i h1 => ?_, fun i j h1 h2 => ?_, fun i h1 => ?_⟩
      · have : i = 0 := by omega
        subst this; exact Nat.le_refl _
      · omega
      · omega
    rcases X_cl1 (De := De) (n := n) h0 hP (by omega) hn (upd row 0 (nI p)) p hrow hV with ⟨row', y, f1, ⟨f2, f3, f4⟩, f5⟩ | ⟨row', f1, f2, f3⟩
    · simp only at f1
      rw [f1, b2_some, if_neg n10]
      left
      refine ⟨row', y, rfl, ?_, f3, fun x hx => ?_, f5⟩
      · rw [hpow]
        have : y < P ^ (n - 1) * (p + 1) := by
          have := Nat.lt_mul_div_succ y hpp
          rw [f2] at this
          exact this
        have h2 : P ^ (n - 1) * (p + 1) ≤ P ^ (n - 1) * P := Nat.mul_le_mul_left _ (by omega)
        omega
      · have mono : x / P ^ (n - 1) ≤ y / P ^ (n - 1) := Nat.div_le_div_right (Nat.le_of_lt hx)
        rw [f2] at mono
        by_cases ce : x / P ^ (n - 1) = p
        · exact f4 x ce hx
        · exact hi x (by omega)
    · simp only at f1
      rw [f1, b2_some, if_pos rfl]
      refine ih (p + 1) row' m (by omega) (by omega) (fun x hx => ?_)
      by_cases ce : x / P ^ (n - 1) = p
      · exact f2 x ce
      · exact hi x (by omega)
/-! the reference's way to a ring -/
def mskB (f : Nat → Bool) : Int32 := ((((0 ||| if f 0 then (1 : Int32) else 0) ||| if f 1 then 2 else 0) ||| if f 2 then 4 else 0) ||| if f 3 then 8 else 0) ||| if f 4 then 16 else 0
def fn5 (a b c d e : Bool) : Nat → Bool := fun k => match k with | 0 => a | 1 => b | 2 => c | 3 => d | _ => e
theorem msk_dec : ∀ (a b c d e : Bool) (k : Fin 5), (decide (mskB (fn5 a b c d e) ||| ((1 : Int32) <<< (nI k.1 &&& 31)) = mskB (fun x => fn5 a b c d e x || x == k.1)) && (decide ((mskB (fn5 a b c d e) >>> (nI k.1 &&& 31)) &&& (1 : Int32) = 0) == !(fn5 a b c d e k.1))) = true := by decide +kernel
theorem bs5_add (f : Nat → Bool) {k : Nat} (hk : k < 5) : mskB f ||| (1 <<< (nI k &&& 31)) = mskB (fun x => f x || x == k) := by
  have h := msk_dec (f 0) (f 1) (f 2) (f 3) (f 4) ⟨k, hk⟩
  rw [Bool.and_eq_true, decide_eq_true_eq] at h
  exact h.1
theorem bs5_get (f : Nat → Bool) {k : Nat} (hk : k < 5) : ((mskB f >>> (nI k &&& 31)) &&& 1 = 0) ↔ f k = false := by
  have h := msk_dec (f 0) (f 1) (f 2) (f 3) (f 4) ⟨k, hk⟩
  rw [Bool.and_eq_true, beq_iff_eq] at h
  have h2 : decide ((mskB f >>> (nI k &&& 31)) &&& (1 : Int32) = 0) = !(fn5 (f 0) (f 1) (f 2) (f 3) (f 4) k) := h.2
  have e : fn5 (f 0) (f 1) (f 2) (f 3) (f 4) k = f k := by
    match k, hk with
    | 0, _ => rfl
    | 1, _ => rfl
    | 2, _ => rfl
    | 3, _ => rfl
    | 4, _ => rfl
  rw [e] at h2
  constructor
  · intro z
    rw [decide_eq_true z] at h2
    cases hf : f k with
    | false => rfl
    | true => rw [hf] at h2; cases h2
  · intro z
    rw [z] at h2
    exact decide_eq_true_eq.mp h2
theorem M_dig_L {n m : Nat} (h0 : 0 < P) (hP : P ≤ 5) (hn : n ≤ 5) (hm : m < 2 ^ 31) : ∀ (k : Nat) (f : Nat → Bool) (b : Bool) (row : Nat → Int32) (fu : Nat), k ≤ n → k < fu → (∀ x, f x = true ↔ ∃ j, k ≤ j ∧ j < n ∧ dg P n m j = x) → (b = true ↔ ∀ i j, k ≤ i → i < j → j < n → dg P n m i ≠ dg P n m j) → (∀ j, k ≤ j → j < n → row j = nI (dg P n m j)) → ∃ b' row', f_X8_clears_L13 (nI P) fu (nI (m / P ^ (n - k))) (mskB f) (bI b) (nI k + (-1)) row = some (bI b', row') ∧ (b' = true ↔ ∀ i j, i < j → j < n → dg P n m i ≠ dg P n m j) ∧ ∀ j, j < n → row' j = nI (dg P n m j) := by
  intro k
  induction k with
  | zero =>
    intro f b row fu hk hfu hf hb hr
    obtain ⟨fu, rfl⟩ : ∃ t, fu = t + 1 := ⟨fu - 1, by omega⟩
    rw [f_X8_clears_L13, if_pos (by decide)]
    exact ⟨b, row, rfl, ⟨fun z i j => hb.mp z i j (by omega), fun z => hb.mpr (fun i j _ => z i j)⟩, fun j hj => hr j (by omega) hj⟩
  | succ k ih =>
    intro f b row fu hk hfu hf hb hr
    obtain ⟨fu, rfl⟩ : ∃ t, fu = t + 1 := ⟨fu - 1, by omega⟩
    have hq : m / P ^ (n - (k + 1)) ≤ m := Nat.div_le_self _ _
    have hd := dg_lt h0 (n := n) (m := m) (i := k)
    have edg : m / P ^ (n - (k + 1)) % P = dg P n m k := by
      unfold dg; rw [show n - 1 - k = n - (k + 1) by omega]
    have et : (if bI b = 0 then some (0 : Int32) else if ((mskB f >>> (nI (dg P n m k) &&& 31)) &&& 1) = 0 then some 1 else some 0) = some (bI (b && !f (dg P n m k))) := by
      cases b with
      | false => rfl
      | true =>
        rw [if_neg (by decide)]
        cases hfk : f (dg P n m k) with
        | false => rw [if_pos ((bs5_get f (by omega)).mpr hfk)]; rfl
        | true => rw [if_neg (fun z => by rw [(bs5_get f (by omega)).mp z] at hfk; cases hfk)]; rfl
    rw [f_X8_clears_L13, pk_m1, if_neg (nI_pos (by omega)), nz_some h0 hP, b1_some, pk_rem (by omega) h0 (by omega), edg, wr_nI (by omega) (by omega), b1_some, b1_some, rd_nI (by omega) (by omega), b1_some, upd_s, et, b1_some, b1_some, pk_div (by omega) h0 (by omega), ← blk_up (by omega), bs5_add f (by omega)]
    refine ih _ _ _ fu (by omega) (by omega) (fun x => ?_) ?_ (fun j h1 h2 => ?_)
    · rw [Bool.or_eq_true, beq_iff_eq, hf]
      constructor
      · rintro (⟨j, h1, h2, h3⟩ | h)
        · exact ⟨j, by omega, h2, h3⟩
        · exact ⟨k, Nat.le_refl k, by omega, h.symm⟩
      · rintro ⟨j, h1, h2, h3⟩
        by_cases cj : j = k
        · subst cj; exact Or.inr h3.symm
        · exact Or.inl ⟨j, by omega, h2, h3⟩
    · rw [Bool.and_eq_true, hb]
      constructor
      · rintro ⟨h1, h2⟩ i j hi hij hj
        by_cases ci : i = k
        · subst ci
          intro e
          have : f (dg P n m i) = true := (hf _).mpr ⟨j, by omega, hj, e.symm⟩
          rw [this] at h2; cases h2
        · exact h1 i j (by omega) hij hj
      · intro h
        refine ⟨fun i j hi => h i j (by omega), ?_⟩
        cases hfk : f (dg P n m k) with
        | false => rfl
        | true =>
          obtain ⟨j, h1, h2, h3⟩ := (hf _).mp hfk
          exact absurd h3.symm (h k j (Nat.le_refl k) (by omega) h2)
    · by_cases cj : j = k
      · subst cj; rw [upd_s]
      · rw [upd_n cj]; exact hr j (by omega) h2
/-- the least debt of the ring r, from place i on -/
def lesR (De : Nat → Int32) (r : Nat → Nat) (n : Nat) : Nat → Nat → Int32 → Int32
  | 0, _, s => s
  | d + 1, i, s => lesR De r n d (i + 1) (mn s (De (5 * r i + r ((i + 1) % n))))
variable {now : Nat → Int32} {Da Dr : Int32} {Na Mo Wa : Nat → Int32}
theorem M_min_L {n : Nat} {r : Nat → Nat} (hR : RR P now Da Dr Na Mo Wa De) (hn0 : 0 < n) (hn : n ≤ 5) {row : Nat → Int32} (hr : ∀ j, j < n → row j = nI (r j) ∧ r j < 5) (B0 : Prop) : ∀ (d i : Nat) (b : Bool) (s : Int32) (fu : Nat), i + d = n → d < fu → (b = true ↔ B0 ∧ ∀ j, j < i → r 0 ≤ r j) → ∃ b', f_X8_clears_L92 now (nI n) row fu (bI b) s (nI i) = some (bI b', lesR De r n d i s) ∧ (b' = true ↔ B0 ∧ ∀ j, j < n → r 0 ≤ r j) := by
  intro d
  induction d with
  | zero =>
    intro i b s fu hi hfu hb
    obtain ⟨fu, rfl⟩ : ∃ t, fu = t + 1 := ⟨fu - 1, by omega⟩
    have : i = n := by omega
    subst this
    rw [f_X8_clears_L92, if_pos (Int32.le_refl _)]
    exact ⟨b, rfl, hb⟩
  | succ d ih =>
    intro i b s fu hi hfu hb
    obtain ⟨fu, rfl⟩ : ∃ t, fu = t + 1 := ⟨fu - 1, by omega⟩
    have hm := Nat.mod_lt (i + 1) hn0
    obtain ⟨a1, a2⟩ := hr i (by omega)
    obtain ⟨c1, c2⟩ := hr 0 (by omega)
    obtain ⟨d1, d2⟩ := hr ((i + 1) % n) hm
    have r0 : rd row 5 0 = some (row 0) := rd_nI (i := 0) (by omega) (by omega)
    have et : (if bI b = 0 then some (0 : Int32) else if nI (r i) < nI (r 0) then some 0 else some 1) = some (bI (b && decide (r 0 ≤ r i))) := by
      cases b with
      | false => rfl
      | true =>
        rw [if_neg (by decide)]
        by_cases c : r 0 ≤ r i
        · rw [if_neg (nI_nlt c (by omega)), decide_eq_true c]; rfl
        · rw [if_pos (nI_lt (by omega) (by omega)), decide_eq_false c]; rfl
    rw [f_X8_clears_L92, if_neg (nI_ge (by omega) (by omega)), rd_nI (by omega) (by omega), b1_some, r0, b1_some, a1, c1, et, b1_some, b1_some, nz_some hn0 hn, b1_some, nI_1, pk_rem (by omega) hn0 (by omega), rd_nI (by omega) (by omega), b1_some, d1, M_debt hR a2 d2, b1_some, lesser_eq, b1_some]
    refine ih (i + 1) _ _ fu (by omega) (by omega) ?_
    rw [Bool.and_eq_true, hb, decide_eq_true_eq]
    constructor
    · rintro ⟨⟨h1, h2⟩, h3⟩
      refine ⟨h1, fun j hj => ?_⟩
      by_cases cj : j = i
      · subst cj; exact h3
      · exact h2 j (by omega)
    · rintro ⟨h1, h2⟩
      exact ⟨⟨h1, fun j hj => h2 j (by omega)⟩, h2 i (by omega)⟩
theorem mn_pos {a b : Int32} : 0 < mn a b ↔ 0 < a ∧ 0 < b := by
  unfold mn
  by_cases c : b < a
  · rw [if_pos c]; exact ⟨fun z => ⟨Int32.lt_trans z c, z⟩, fun z => z.2⟩
  · rw [if_neg c]; exact ⟨fun z => ⟨z, Int32.lt_of_lt_of_le z (Int32.not_lt.mp c)⟩, fun z => z.1⟩
theorem lesR_pos {r : Nat → Nat} {n : Nat} : ∀ (d i : Nat) (s : Int32), 0 < lesR De r n d i s ↔ 0 < s ∧ ∀ j, i ≤ j → j < i + d → 0 < De (5 * r j + r ((j + 1) % n)) := by
  intro d
  induction d with
  | zero => intro i s; exact ⟨fun z => ⟨z, fun j h1 h2 => absurd h2 (by omega)⟩, fun z => z.1⟩
  | succ d ih =>
    intro i s
    rw [lesR, ih, mn_pos]
    constructor
    · rintro ⟨⟨h1, h2⟩, h3⟩
      refine ⟨h1, fun j a b => ?_⟩
      by_cases cj : j = i
      · subst cj; exact h2
      · exact h3 j (by omega) (by omega)
    · rintro ⟨h1, h2⟩
      exact ⟨⟨h1, h2 i (by omega) (by omega)⟩, fun j a b => h2 j (by omega) (by omega)⟩
/-- one number tried: the row of its figures; a ring or not -/
theorem M_clears (hR : RR P now Da Dr Na Mo Wa De) {n m : Nat} (h0 : 0 < P) (hP : P ≤ 5) (hn0 : 0 < n) (hn : n ≤ 5) (hm : m < P ^ n) (row : Nat → Int32) : ∃ row', (∀ i, i < n → row' i = nI (dg P n m i)) ∧ ((Gd P n De m ∧ f_X8_clears now (nI P) row (nI m) (nI n) = some (lesR De (dg P n m) n n 0 100, row') ∧ ¬ lesR De (dg P n m) n n 0 100 ≤ 0) ∨ (¬ Gd P n De m ∧ ∃ c, f_X8_clears now (nI P) row (nI m) (nI n) = some (c, row') ∧ c ≤ 0)) := by
  have hpow : P ^ n ≤ 5 ^ 5 := Nat.le_trans (Nat.pow_le_pow_left hP n) (Nat.pow_le_pow_right (by omega) hn)
  obtain ⟨b, row', e1, hb, hr⟩ := M_dig_L (P := P) (n := n) (m := m) h0 hP hn (by omega) n (fun _ => false) true row 400 (Nat.le_refl n) (by omega) (fun x => ⟨fun z => (by cases z), fun ⟨j, h1, h2, _⟩ => absurd h2 (by omega)⟩) ⟨fun _ i j h1 h2 h3 => absurd h3 (by omega), fun _ => rfl⟩ (fun j h1 h2 => absurd h2 (by omega))
  obtain ⟨n', rfl⟩ : ∃ t, n = t + 1 := ⟨n - 1, by omega⟩
  rw [Nat.sub_self, Nat.pow_zero, Nat.div_one, pk_m1] at e1
  have e1' : f_X8_clears_L13 (nI P) 400 (nI m) 0 1 (nI n') row = some (bI b, row') := e1
  obtain ⟨b', e2, hb'⟩ := M_min_L (r := dg P (n' + 1) m) hR (by omega) hn (fun j hj => ⟨hr j hj, by have := dg_lt h0 (n := n' + 1) (m := m) (i := j); omega⟩) (∀ i j, i < j → j < n' + 1 → dg P (n' + 1) m i ≠ dg P (n' + 1) m j) (n' + 1) 0 b 100 400 (by omega) (by omega) ⟨fun z => ⟨hb.mp z, fun j hj => absurd hj (by omega)⟩, fun z => hb.mpr z.1⟩
  rw [nI_0] at e2
  refine ⟨row', hr, ?_⟩
  unfold f_X8_clears
  rw [nI_pred, e1', b2_some, e2, b2_some]
  by_cases g : Gd P (n' + 1) De m
  · left
    have bt : b' = true := hb'.mpr ⟨g.2.1, g.1⟩
    subst bt
    rw [if_neg (by decide)]
    refine ⟨g, rfl, Int32.not_le.mpr ((lesR_pos _ _ _).mpr ⟨by decide, fun j _ hj => g.2.2 j (by omega)⟩)⟩
  · right
    refine ⟨g, ?_⟩
    cases b' with
    | false => rw [if_pos (by rfl)]; exact ⟨0, rfl, by decide⟩
    | true =>
      rw [if_neg (by decide)]
      obtain ⟨h1, h2⟩ := hb'.mp rfl
      refine ⟨_, rfl, Int32.not_lt.mp (fun z => g ⟨h2, h1, fun i hi => ?_⟩)⟩
      exact ((lesR_pos _ _ _).mp z).2 i (by omega) (by omega)
theorem M_find_L (hR : RR P now Da Dr Na Mo Wa De) {n : Nat} (h0 : 0 < P) (hP : P ≤ 5) (hn0 : 0 < n) (hn : n ≤ 5) : ∀ (d i : Nat) (row : Nat → Int32) (mu : Int32) (fu : Nat), i + d = P ^ n → d < fu → (∀ x, x < i → ¬ Gd P n De x) → (∃ row' y, f_X8_findRing_L24 now (nI P) (nI (P ^ (n - 1))) (nI n) fu (nI i) row mu = some (Sum.inl (nI n, row', lesR De (dg P n y) n n 0 100)) ∧ y < P ^ n ∧ Gd P n De y ∧ (∀ x, x < y → ¬ Gd P n De x) ∧ ∀ i, i < n → row' i = nI (dg P n y i)) ∨ (∃ row' mu', f_X8_findRing_L24 now (nI P) (nI (P ^ (n - 1))) (nI n) fu (nI i) row mu = some (Sum.inr (row', mu')) ∧ ∀ x, x < P ^ n → ¬ Gd P n De x) := by
  have hpow : P ^ n ≤ 5 ^ 5 := Nat.le_trans (Nat.pow_le_pow_left hP n) (Nat.pow_le_pow_right (by omega) hn)
  have eall : nI (P ^ (n - 1)) * nI P = nI (P ^ n) := by rw [pk_mul, ← pow_pred (by omega)]
  intro d
  induction d with
  | zero =>
    intro i row mu fu hi hfu hx
    obtain ⟨fu, rfl⟩ : ∃ t, fu = t + 1 := ⟨fu - 1, by omega⟩
    right
    rw [f_X8_findRing_L24, eall, if_pos (nI_le (by omega) (by omega))]
    exact ⟨row, mu, rfl, fun x h => hx x (by omega)⟩
  | succ d ih =>
    intro i row mu fu hi hfu hx
    obtain ⟨fu, rfl⟩ : ∃ t, fu = t + 1 := ⟨fu - 1, by omega⟩
    rw [f_X8_findRing_L24, eall, if_neg (nI_ge (by omega) (by omega)), nI_1]
    obtain ⟨row', hr, ⟨g, e, hp⟩ | ⟨g, c, e, hc⟩⟩ := M_clears hR (n := n) (m := i) h0 hP hn0 hn (by omega) row
    · rw [e, b2_some, if_neg hp]
      exact Or.inl ⟨row', i, rfl, by omega, g, hx, hr⟩
    · rw [e, b2_some, if_pos hc]
      refine ih (i + 1) row' c fu (by omega) (by omega) (fun x h => ?_)
      by_cases cx : x = i
      · subst cx; exact g
      · exact hx x (by omega)
/-- a ring of n people in a row -/
def RD (P : Nat) (De : Nat → Int32) (n : Nat) (r : Nat → Nat) : Prop := 2 ≤ n ∧ n ≤ P ∧ (∀ i, i < n → r i < P) ∧ (∀ i j, i < j → j < n → r i ≠ r j) ∧ ∀ i, i < n → 0 < De (5 * r i + r ((i + 1) % n))
theorem find_both_L (hR : RR P now Da Dr Na Mo Wa De) (hP : P ≤ 5) : ∀ (d n : Nat) (fRo mRow : Nat → Int32) (fSz mMu : Int32) (fu fu2 : Nat), n + d = P + 1 → 2 ≤ n → d < fu → d < fu2 → (∃ fRo' fSz' mRow' mMu', f_X4_find_L2 (nI P) De fu (nI n) fRo fSz = some (Sum.inr (fRo', fSz')) ∧ f_X8_findRing_L7 now (nI P) fu2 (nI (P ^ (n - 1))) (nI n) mRow mMu = some (Sum.inr (mRow', mMu'))) ∨ (∃ k r fRo' mRow', f_X4_find_L2 (nI P) De fu (nI n) fRo fSz = some (Sum.inl (1, fRo', nI k)) ∧ f_X8_findRing_L7 now (nI P) fu2 (nI (P ^ (n - 1))) (nI n) mRow mMu = some (Sum.inl (nI k, mRow', lesR De r k k 0 100)) ∧ RD P De k r ∧ (∀ i, i < k → fRo' i = nI (r i)) ∧ ∀ i, i < k → mRow' i = nI (r i)) := by
  intro d
  induction d with
  | zero =>
    intro n fRo mRow fSz mMu fu fu2 hn h2 hfu hfu2
    obtain ⟨fu, rfl⟩ : ∃ t, fu = t + 1 := ⟨fu - 1, by omega⟩
    obtain ⟨fu2, rfl⟩ : ∃ t, fu2 = t + 1 := ⟨fu2 - 1, by omega⟩
    left
    rw [f_X4_find_L2, f_X8_findRing_L7, if_pos (nI_lt (by omega) (by omega)), if_pos (nI_lt (by omega) (by omega))]
    exact ⟨_, _, _, _, rfl, rfl⟩
  | succ d ih =>
    intro n fRo mRow fSz mMu fu fu2 hn h2 hfu hfu2
    obtain ⟨fu, rfl⟩ : ∃ t, fu = t + 1 := ⟨fu - 1, by omega⟩
    obtain ⟨fu2, rfl⟩ : ∃ t, fu2 = t + 1 := ⟨fu2 - 1, by omega⟩
    have hpow : P ^ n ≤ 5 ^ 5 := Nat.le_trans (Nat.pow_le_pow_left hP n) (Nat.pow_le_pow_right (by omega) (by omega))
    have eall : nI (P ^ (n - 1)) * nI P = nI (P ^ n) := by rw [pk_mul, ← pow_pred (by omega)]
    rw [f_X4_find_L2, f_X8_findRing_L7, if_neg (nI_nlt (by omega) (by omega)), if_neg (nI_nlt (by omega) (by omega))]
    have hx := X_find_L (De := De) (n := n) (show 0 < P by omega) hP (by omega) (by omega) P 0 fRo 400 (by omega) (by omega) (fun x h => absurd h (Nat.not_lt_zero _))
    have hm := M_find_L hR (n := n) (show 0 < P by omega) hP (by omega) (by omega) (P ^ n) 0 mRow mMu 4000 (by omega) (by omega) (fun x h => absurd h (by omega))
    rw [nI_0] at hx hm
    rcases hx with ⟨row1, y1, x1, x2, x3, x4, x5⟩ | ⟨row1, x1, x2⟩
    · rcases hm with ⟨row2, y2, z1, z2, z3, z4, z5⟩ | ⟨row2, mu2, z1, z2⟩
      · have ey : y1 = y2 := by
          rcases Nat.lt_trichotomy y1 y2 with h | h | h
          · exact absurd x3 (z4 y1 h)
          · exact h
          · exact absurd z3 (x4 y2 h)
        subst ey
        right
        rw [x1, z1]
        exact ⟨n, dg P n y1, row1, row2, rfl, rfl, ⟨h2, by omega, fun i _ => dg_lt (by omega), x3.2.1, x3.2.2⟩, x5, z5⟩
      · exact absurd x3 (z2 y1 x2)
    · rcases hm with ⟨row2, y2, z1, z2, z3, z4, z5⟩ | ⟨row2, mu2, z1, z2⟩
      · exact absurd z3 (x2 y2 z2)
      · rw [x1, z1]
        show (∃ fRo' fSz' mRow' mMu', f_X4_find_L2 (nI P) De fu (nI n + 1) row1 (nI n) = _ ∧ f_X8_findRing_L7 now (nI P) fu2 (nI (P ^ (n - 1)) * nI P) (nI n + 1) row2 mu2 = _) ∨ _
        rw [eall, nI_1]
        have := ih (n + 1) row1 row2 (nI n) mu2 fu fu2 (by omega) (by omega) (by omega) (by omega)
        rw [show n + 1 - 1 = n by omega] at this
        exact this
theorem find_both (hR : RR P now Da Dr Na Mo Wa De) (hP : P ≤ 5) (fRo mRow : Nat → Int32) (fSz mMu : Int32) : (∃ fRo' mRow' mMu', f_X4_find fRo fSz (nI P) De = some (0, fRo', 0) ∧ f_X8_findRing now (nI P) mRow mMu = some (-4, mRow', mMu')) ∨ (∃ k r fRo' mRow', f_X4_find fRo fSz (nI P) De = some (1, fRo', nI k) ∧ f_X8_findRing now (nI P) mRow mMu = some (nI k, mRow', lesR De r k k 0 100) ∧ RD P De k r ∧ (∀ i, i < k → fRo' i = nI (r i)) ∧ ∀ i, i < k → mRow' i = nI (r i)) := by
  unfold f_X4_find f_X8_findRing
  by_cases c : P = 0
  · subst c
    left
    rw [f_X4_find_L2, f_X8_findRing_L7, if_pos (by decide), if_pos (by decide)]
    exact ⟨_, _, _, rfl, rfl⟩
  have h := find_both_L hR hP (P - 1) 2 fRo mRow fSz mMu 400 400 (by omega) (by omega) (by omega) (by omega)
  rw [show 2 - 1 = 1 by omega, Nat.pow_one] at h
  have e2 : nI 2 = 2 := rfl
  rw [e2] at h
  rcases h with ⟨a, b, c, d, e1, e2⟩ | ⟨k, r, a, b, e1, e2, e3, e4, e5⟩
  · rw [e1, e2]; exact Or.inl ⟨_, _, _, rfl, rfl⟩
  · rw [e1, e2]; exact Or.inr ⟨k, r, a, b, rfl, rfl, e3, e4, e5⟩
end E15
