/-! ===== L2: from who rode when ===== -/
section E12
variable {P : Nat} {st now : Nat → Int32} {Da Dr : Int32} {Na Mo Wa De Dy Wo Ri : Nat → Int32} {Sz : Int32}
/-- the debts behind d days -/
def dD (P : Nat) (Na Wa : Nat → Int32) (dry : Int32) (Mo De : Nat → Int32) (d : Nat) : Nat → Int32 := (daysR P Na Wa dry d 0 Mo De).2.2
def dM (P : Nat) (Na Wa : Nat → Int32) (dry : Int32) (Mo De : Nat → Int32) (d : Nat) : Nat → Int32 := (daysR P Na Wa dry d 0 Mo De).2.1
theorem daysR_e : ∀ (d : Nat) (Mo De : Nat → Int32), (daysR P Na Wa Dr (d + 1) 0 Mo De).2 = (dMo P Na Wa Dr (dM P Na Wa Dr Mo De d) (dD P Na Wa Dr Mo De d), dDe P Na Wa Dr (dM P Na Wa Dr Mo De d) (dD P Na Wa Dr Mo De d)) := by
  intro d
  induction d with
  | zero => intro Mo De; rw [daysR_s]; rfl
  | succ d ih =>
    intro Mo De
    rw [daysR_s, ih]
    unfold dM dD
    rw [daysR_s (d := d)]
theorem dD_s (d : Nat) : dDe P Na Wa Dr (dM P Na Wa Dr Mo De d) (dD P Na Wa Dr Mo De d) = dD P Na Wa Dr Mo De (d + 1) := by
  have := congrArg Prod.snd (daysR_e (P := P) (Na := Na) (Wa := Wa) (Dr := Dr) d Mo De)
  exact this.symm
theorem dM_s (d : Nat) : dMo P Na Wa Dr (dM P Na Wa Dr Mo De d) (dD P Na Wa Dr Mo De d) = dM P Na Wa Dr Mo De (d + 1) := by
  have := congrArg Prod.fst (daysR_e (P := P) (Na := Na) (Wa := Wa) (Dr := Dr) d Mo De)
  exact this.symm
def gd (D : Nat → Nat → Int32) (P : Nat) (Dy Wo Ri : Nat → Int32) (i : Nat) : Bool := decide (owes (D (Dy i).toNatClampNeg) P (Wo i).toNatClampNeg = 0) == decide (Ri i = 1)
def fitB (D : Nat → Nat → Int32) (P : Nat) (Dy Wo Ri : Nat → Int32) : Nat → Bool
  | 0 => true
  | i + 1 => fitB D P Dy Wo Ri i && gd D P Dy Wo Ri i
theorem fitB_iff (D : Nat → Nat → Int32) : ∀ s, fitB D P Dy Wo Ri s = true ↔ ∀ i, i < s → gd D P Dy Wo Ri i = true := by
  intro s
  induction s with
  | zero => exact ⟨fun _ i hi => absurd hi (by omega), fun _ => rfl⟩
  | succ s ih =>
    rw [fitB, Bool.and_eq_true, ih]
    constructor
    · intro ⟨h1, h2⟩ i hi
      by_cases c : i = s
      · subst c; exact h2
      · exact h1 i (by omega)
    · intro h
      exact ⟨fun i hi => h i (by omega), h s (by omega)⟩
theorem gd_eq (D : Nat → Nat → Int32) {i d w : Nat} (hd : d ≤ 30) (hw : w < 5) (e1 : Dy i = nI d) (e2 : Wo i = nI w) : gd D P Dy Wo Ri i = (decide (owes (D d) P w = 0) == decide (Ri i = 1)) := by
  unfold gd
  rw [e1, e2, nI_clamp (by omega), nI_clamp (by omega)]
def bI (b : Bool) : Int32 := if b then 1 else 0
theorem bI_0 {b : Bool} : bI b = 0 ↔ b = false := by cases b <;> decide
/-! the class -/
theorem X_lastDay_L {s : Nat} (hs : s ≤ 6) (hD : ∀ i, i < s → ∃ d, d ≤ 30 ∧ Dy i = nI d) : ∀ (k i : Nat) (m : Int32) (n : Nat), i + k = s → k < n → ((m = -1 ∧ ∀ j, j < i → False) ∨ ∃ l, l ≤ 30 ∧ m = nI l ∧ ∀ j, j < i → ∃ d, d ≤ l ∧ Dy j = nI d) → ∃ m', f_X5_lastDay_L4 Dy (nI s) n m (nI i) = some m' ∧ ((m' = -1 ∧ s = 0) ∨ ∃ l, l ≤ 30 ∧ m' = nI l ∧ ∀ j, j < s → ∃ d, d ≤ l ∧ Dy j = nI d) := by
  intro k
  induction k with
  | zero =>
    intro i m n hi hn h
    obtain ⟨n, rfl⟩ : ∃ m, n = m + 1 := ⟨n - 1, by omega⟩
    rw [f_X5_lastDay_L4, if_pos (nI_le (by omega) (by omega))]
    refine ⟨m, rfl, ?_⟩
    rcases h with ⟨h1, h2⟩ | h
    · left
      refine ⟨h1, ?_⟩
      rcases Nat.eq_zero_or_pos s with z | z
      · exact z
      · exact absurd (h2 0 (by omega)) (by simp)
    · right
      have : i = s := by omega
      subst this; exact h
  | succ k ih =>
    intro i m n hi hn h
    obtain ⟨n, rfl⟩ : ∃ m, n = m + 1 := ⟨n - 1, by omega⟩
    rw [f_X5_lastDay_L4, if_neg (nI_ge (by omega) (by omega)), rd_nI (by omega) (by omega), b1_some, b1_some, nI_1]
    refine ih (i + 1) _ n (by omega) (by omega) (Or.inr ?_)
    obtain ⟨d, hd, ed⟩ := hD i (by omega)
    rw [ed]
    rcases h with ⟨h1, h2⟩ | ⟨l, hl, e, h⟩
    · have hi0 : i = 0 := by
        rcases Nat.eq_zero_or_pos i with z | z
        · exact z
        · exact absurd (h2 0 z) (by simp)
      subst hi0
      have : (-1 : Int32) < nI d := by
        refine Int32.lt_iff_toInt_lt.mpr ?_
        rw [nI_toInt (by omega)]
        have : (-1 : Int32).toInt = -1 := rfl
        omega
      rw [h1, if_pos this]
      refine ⟨d, hd, rfl, fun j hj => ?_⟩
      have : j = 0 := by omega
      subst this
      exact ⟨d, Nat.le_refl d, ed⟩
    · subst e
      by_cases c : l < d
      · rw [if_pos (nI_lt c (by omega))]
        refine ⟨d, hd, rfl, fun j hj => ?_⟩
        by_cases cj : j = i
        · subst cj; exact ⟨d, Nat.le_refl d, ed⟩
        · obtain ⟨d', h1, h2⟩ := h j (by omega)
          exact ⟨d', by omega, h2⟩
      · rw [if_neg (nI_nlt (by omega) (by omega))]
        refine ⟨l, hl, rfl, fun j hj => ?_⟩
        by_cases cj : j = i
        · subst cj; exact ⟨d, by omega, ed⟩
        · exact h j (by omega)
theorem X_fitsOn_L {s d : Nat} (hs : s ≤ 6) (hd : d ≤ 30) (hP : P ≤ 5) (D : Nat → Nat → Int32) (hS : ∀ i, i < s → ∃ d w, d ≤ 30 ∧ w < P ∧ Dy i = nI d ∧ Wo i = nI w ∧ (Ri i = 0 ∨ Ri i = 1)) : ∀ (k i n : Nat), i + k = s → k < n → (f_X5_fitsOn_L2 Dy Wo Ri (nI s) (nI P) (D d) (nI d) n (nI i) = some (Sum.inr ()) ∧ ∀ j, i ≤ j → j < s → Dy j = nI d → gd D P Dy Wo Ri j = true) ∨ (f_X5_fitsOn_L2 Dy Wo Ri (nI s) (nI P) (D d) (nI d) n (nI i) = some (Sum.inl 0) ∧ ∃ j, i ≤ j ∧ j < s ∧ Dy j = nI d ∧ gd D P Dy Wo Ri j = false) := by
  intro k
  induction k with
  | zero =>
    intro i n hi hn
    obtain ⟨n, rfl⟩ : ∃ m, n = m + 1 := ⟨n - 1, by omega⟩
    left
    rw [f_X5_fitsOn_L2, if_pos (nI_le (by omega) (by omega))]
    exact ⟨rfl, fun j h1 h2 => absurd h2 (by omega)⟩
  | succ k ih =>
    intro i n hi hn
    obtain ⟨n, rfl⟩ : ∃ m, n = m + 1 := ⟨n - 1, by omega⟩
    obtain ⟨d', w, h1, h2, h3, h4, h5⟩ := hS i (by omega)
    rw [f_X5_fitsOn_L2, if_neg (nI_ge (by omega) (by omega)), rd_nI (by omega) (by omega), b1_some, nI_1]
    have rest := ih (i + 1) n (by omega) (by omega)
    by_cases c : Dy i = nI d
    · rw [if_pos c, rd_nI (by omega) (by omega), b1_some, h4, X_isRiding (by omega) hP, b1_some, rd_nI (by omega) (by omega), b1_some]
      have g := gd_eq (P := P) (Ri := Ri) D hd (w := w) (by omega) c h4
      have e : (if Ri i = 1 then some (1 : Int32) else some 0) = some (if Ri i = 1 then 1 else 0) := by
        by_cases z : Ri i = 1
        · rw [if_pos z, if_pos z]
        · rw [if_neg z, if_neg z]
      rw [e, b1_some]
      have good : gd D P Dy Wo Ri i = true → ((if owes (D d) P w = 0 then (1 : Int32) else 0) = if Ri i = 1 then 1 else 0) := by
        intro gt
        rw [g] at gt
        by_cases z1 : owes (D d) P w = 0 <;> by_cases z2 : Ri i = 1 <;> simp [z1, z2] at gt ⊢
      have bad : gd D P Dy Wo Ri i = false → ¬ ((if owes (D d) P w = 0 then (1 : Int32) else 0) = if Ri i = 1 then 1 else 0) := by
        intro gt
        rw [g] at gt
        by_cases z1 : owes (D d) P w = 0 <;> by_cases z2 : Ri i = 1 <;> simp [z1, z2] at gt ⊢
      cases hg : gd D P Dy Wo Ri i with
      | true =>
        rw [if_pos (good hg)]
        rcases rest with ⟨r1, r2⟩ | ⟨r1, j, r2, r3, r4, r5⟩
        · left
          refine ⟨r1, fun j a b e => ?_⟩
          by_cases cj : j = i
          · subst cj; exact hg
          · exact r2 j (by omega) b e
        · right; exact ⟨r1, j, by omega, r3, r4, r5⟩
      | false =>
        rw [if_neg (bad hg)]
        right; exact ⟨rfl, i, Nat.le_refl i, by omega, c, hg⟩
    · rw [if_neg c]
      rcases rest with ⟨r1, r2⟩ | ⟨r1, j, r2, r3, r4, r5⟩
      · left
        refine ⟨r1, fun j a b e => ?_⟩
        by_cases cj : j = i
        · subst cj; exact absurd e c
        · exact r2 j (by omega) b e
      · right; exact ⟨r1, j, by omega, r3, r4, r5⟩
theorem X_fitsOn {s d : Nat} (hs : s ≤ 6) (hd : d ≤ 30) (hP : P ≤ 5) (D : Nat → Nat → Int32) (hS : ∀ i, i < s → ∃ d w, d ≤ 30 ∧ w < P ∧ Dy i = nI d ∧ Wo i = nI w ∧ (Ri i = 0 ∨ Ri i = 1)) : (f_X5_fitsOn Dy Wo Ri (nI s) (nI P) (D d) (nI d) = some 1 ∧ ∀ j, j < s → Dy j = nI d → gd D P Dy Wo Ri j = true) ∨ (f_X5_fitsOn Dy Wo Ri (nI s) (nI P) (D d) (nI d) = some 0 ∧ ∃ j, j < s ∧ Dy j = nI d ∧ gd D P Dy Wo Ri j = false) := by
  unfold f_X5_fitsOn
  rcases X_fitsOn_L hs hd hP D hS s 0 400 (by omega) (by omega) with ⟨r1, r2⟩ | ⟨r1, j, r2, r3, r4, r5⟩
  · rw [nI_0] at r1
    rw [r1]; exact Or.inl ⟨rfl, fun j a b => r2 j (by omega) a b⟩
  · rw [nI_0] at r1
    rw [r1]; exact Or.inr ⟨rfl, j, r3, r4, r5⟩
theorem X_fits_L {s l : Nat} (hs : s ≤ 6) (hl : l ≤ 30) (hP : P ≤ 5) (hS : ∀ i, i < s → ∃ d w, d ≤ 30 ∧ w < P ∧ Dy i = nI d ∧ Wo i = nI w ∧ (Ri i = 0 ∨ Ri i = 1)) : ∀ (k i : Nat) (Da : Int32) (n : Nat), i + k = l + 1 → k < n → (∃ a b c, f_X5_fits_L7 Dy Wo Ri (nI s) (nI P) Dr Na Wa (nI l) n (nI i) Da (dM P Na Wa Dr Mo De i) (dD P Na Wa Dr Mo De i) = some (Sum.inr (a, b, c)) ∧ ∀ j d, j < s → i ≤ d → d ≤ l → Dy j = nI d → gd (dD P Na Wa Dr Mo De) P Dy Wo Ri j = true) ∨ (∃ a b c, f_X5_fits_L7 Dy Wo Ri (nI s) (nI P) Dr Na Wa (nI l) n (nI i) Da (dM P Na Wa Dr Mo De i) (dD P Na Wa Dr Mo De i) = some (Sum.inl (0, a, b, c)) ∧ ∃ j, j < s ∧ gd (dD P Na Wa Dr Mo De) P Dy Wo Ri j = false) := by
  intro k
  induction k with
  | zero =>
    intro i Da n hi hn
    obtain ⟨n, rfl⟩ : ∃ m, n = m + 1 := ⟨n - 1, by omega⟩
    left
    rw [f_X5_fits_L7, if_pos (nI_lt (by omega) (by omega))]
    exact ⟨_, _, _, rfl, fun j d _ h1 h2 => absurd h2 (by omega)⟩
  | succ k ih =>
    intro i Da n hi hn
    obtain ⟨n, rfl⟩ : ∃ m, n = m + 1 := ⟨n - 1, by omega⟩
    rw [f_X5_fits_L7, if_neg (nI_nlt (by omega) (by omega))]
    rcases X_fitsOn (d := i) hs (by omega) hP (dD P Na Wa Dr Mo De) hS with ⟨r1, r2⟩ | ⟨r1, j, r2, r3, r4⟩
    · rw [r1, b1_some, if_neg n10, X_runDay hP, b4_some, nI_1]
      have rest := ih (i + 1) (Da + 1) n (by omega) (by omega)
      rw [← dM_s, ← dD_s] at rest
      rcases rest with ⟨a, b, c, q1, q2⟩ | ⟨a, b, c, q1, q2⟩
      · left
        refine ⟨a, b, c, q1, fun j d hj h1 h2 e => ?_⟩
        by_cases cd : d = i
        · subst cd; exact r2 j hj e
        · exact q2 j d hj (by omega) h2 e
      · right; exact ⟨a, b, c, q1, q2⟩
    · rw [r1, b1_some, if_pos rfl]
      right; exact ⟨_, _, _, rfl, j, r2, r4⟩
theorem X_fits (h : SN P st Dy Wo Ri Sz) (hP : P ≤ 5) : ∃ s a b c, Sz = nI s ∧ s ≤ 6 ∧ f_X5_fits Dy Wo Ri Sz (nI P) Da Dr Na Mo Wa De = some (bI (fitB (dD P Na Wa Dr Mo De) P Dy Wo Ri s), a, b, c) := by
  obtain ⟨s, hs, rfl, -, h4⟩ := h
  have hS : ∀ i, i < s → ∃ d w, d ≤ 30 ∧ w < P ∧ Dy i = nI d ∧ Wo i = nI w ∧ (Ri i = 0 ∨ Ri i = 1) := by
    intro i hi
    obtain ⟨d, w, a1, a2, a3, a4, a5, -⟩ := h4 i hi
    exact ⟨d, w, a1, a2, a3, a4, a5⟩
  have hD : ∀ i, i < s → ∃ d, d ≤ 30 ∧ Dy i = nI d := by
    intro i hi
    obtain ⟨d, w, a1, a2, a3, -⟩ := hS i hi
    exact ⟨d, a1, a3⟩
  obtain ⟨m, e1, hm⟩ := X_lastDay_L hs hD s 0 (-1) 400 (by omega) (by omega) (Or.inl ⟨rfl, fun j hj => absurd hj (by omega)⟩)
  rw [nI_0] at e1
  unfold f_X5_fits f_X5_lastDay
  rw [e1, b1_some, b1_some]
  rcases hm with ⟨hm, h0⟩ | ⟨l, hl, rfl, hall⟩
  · subst h0 hm
    rw [f_X5_fits_L7, if_pos (by decide)]
    exact ⟨0, _, _, _, rfl, by omega, rfl⟩
  · have q := X_fits_L (Dr := Dr) (Na := Na) (Mo := Mo) (Wa := Wa) (De := De) hs hl hP hS (l + 1) 0 Da 400 (by omega) (by omega)
    rw [nI_0] at q
    rcases q with ⟨a, b, c, q1, q2⟩ | ⟨a, b, c, q1, j, q2, q3⟩
    · have q1' : f_X5_fits_L7 Dy Wo Ri (nI s) (nI P) Dr Na Wa (nI l) 400 0 Da Mo De = _ := q1
      have ft : fitB (dD P Na Wa Dr Mo De) P Dy Wo Ri s = true := by
        rw [fitB_iff]
        intro i hi
        obtain ⟨d, h1, h2⟩ := hall i hi
        exact q2 i d hi (by omega) h1 h2
      rw [q1']
      exact ⟨s, a, b, c, rfl, hs, by rw [ft]; rfl⟩
    · have q1' : f_X5_fits_L7 Dy Wo Ri (nI s) (nI P) Dr Na Wa (nI l) 400 0 Da Mo De = _ := q1
      have ft : fitB (dD P Na Wa Dr Mo De) P Dy Wo Ri s = false := by
        cases hf : fitB (dD P Na Wa Dr Mo De) P Dy Wo Ri s with
        | false => rfl
        | true =>
          have := (fitB_iff _ s).mp hf j q2
          rw [q3] at this; cases this
      rw [q1']
      exact ⟨s, a, b, c, rfl, hs, by rw [ft]; rfl⟩
/-! the reference -/
theorem bit5 : ∀ (a b c d e : Bool), ∀ w : Fin 5, ((((((0 ||| if a then (1 : Int32) else 0) ||| if b then 2 else 0) ||| if c then 4 else 0) ||| if d then 8 else 0) ||| if e then 16 else 0) >>> (nI w.1 &&& 31)) &&& 1 = if (match w.1 with | 0 => a | 1 => b | 2 => c | 3 => d | _ => e) then 1 else 0 := by decide +kernel
theorem rid_bit {w : Nat} (hw : w < P) (hP : P ≤ 5) : (rid De P >>> (nI w &&& 31)) &&& 1 = if owes De P w = 0 then 1 else 0 := by
  have s0 : (1 : Int32) <<< (nI 0 &&& 31) = 1 := by decide
  have s1 : (1 : Int32) <<< (nI 1 &&& 31) = 2 := by decide
  have s2 : (1 : Int32) <<< (nI 2 &&& 31) = 4 := by decide
  have s3 : (1 : Int32) <<< (nI 3 &&& 31) = 8 := by decide
  have s4 : (1 : Int32) <<< (nI 4 &&& 31) = 16 := by decide
  unfold rid
  match P, hP, w, hw with
  | 1, _, 0, _ =>
    have := bit5 (decide (owes De 1 0 = 0)) false false false false ⟨0, by decide⟩
    simp only [ridR, or_if, s0, s1, s2, s3, s4]
    simpa using this
  | 2, _, 0, _ =>
    have := bit5 (decide (owes De 2 0 = 0)) (decide (owes De 2 1 = 0)) false false false ⟨0, by decide⟩
    simp only [ridR, or_if, s0, s1, s2, s3, s4]
    simpa using this
  | 2, _, 1, _ =>
    have := bit5 (decide (owes De 2 0 = 0)) (decide (owes De 2 1 = 0)) false false false ⟨1, by decide⟩
    simp only [ridR, or_if, s0, s1, s2, s3, s4]
    simpa using this
  | 3, _, 0, _ =>
    have := bit5 (decide (owes De 3 0 = 0)) (decide (owes De 3 1 = 0)) (decide (owes De 3 2 = 0)) false false ⟨0, by decide⟩
    simp only [ridR, or_if, s0, s1, s2, s3, s4]
    simpa using this
  | 3, _, 1, _ =>
    have := bit5 (decide (owes De 3 0 = 0)) (decide (owes De 3 1 = 0)) (decide (owes De 3 2 = 0)) false false ⟨1, by decide⟩
    simp only [ridR, or_if, s0, s1, s2, s3, s4]
    simpa using this
  | 3, _, 2, _ =>
    have := bit5 (decide (owes De 3 0 = 0)) (decide (owes De 3 1 = 0)) (decide (owes De 3 2 = 0)) false false ⟨2, by decide⟩
    simp only [ridR, or_if, s0, s1, s2, s3, s4]
    simpa using this
  | 4, _, 0, _ =>
    have := bit5 (decide (owes De 4 0 = 0)) (decide (owes De 4 1 = 0)) (decide (owes De 4 2 = 0)) (decide (owes De 4 3 = 0)) false ⟨0, by decide⟩
    simp only [ridR, or_if, s0, s1, s2, s3, s4]
    simpa using this
  | 4, _, 1, _ =>
    have := bit5 (decide (owes De 4 0 = 0)) (decide (owes De 4 1 = 0)) (decide (owes De 4 2 = 0)) (decide (owes De 4 3 = 0)) false ⟨1, by decide⟩
    simp only [ridR, or_if, s0, s1, s2, s3, s4]
    simpa using this
  | 4, _, 2, _ =>
    have := bit5 (decide (owes De 4 0 = 0)) (decide (owes De 4 1 = 0)) (decide (owes De 4 2 = 0)) (decide (owes De 4 3 = 0)) false ⟨2, by decide⟩
    simp only [ridR, or_if, s0, s1, s2, s3, s4]
    simpa using this
  | 4, _, 3, _ =>
    have := bit5 (decide (owes De 4 0 = 0)) (decide (owes De 4 1 = 0)) (decide (owes De 4 2 = 0)) (decide (owes De 4 3 = 0)) false ⟨3, by decide⟩
    simp only [ridR, or_if, s0, s1, s2, s3, s4]
    simpa using this
  | 5, _, 0, _ =>
    have := bit5 (decide (owes De 5 0 = 0)) (decide (owes De 5 1 = 0)) (decide (owes De 5 2 = 0)) (decide (owes De 5 3 = 0)) (decide (owes De 5 4 = 0)) ⟨0, by decide⟩
    simp only [ridR, or_if, s0, s1, s2, s3, s4]
    simpa using this
  | 5, _, 1, _ =>
    have := bit5 (decide (owes De 5 0 = 0)) (decide (owes De 5 1 = 0)) (decide (owes De 5 2 = 0)) (decide (owes De 5 3 = 0)) (decide (owes De 5 4 = 0)) ⟨1, by decide⟩
    simp only [ridR, or_if, s0, s1, s2, s3, s4]
    simpa using this
  | 5, _, 2, _ =>
    have := bit5 (decide (owes De 5 0 = 0)) (decide (owes De 5 1 = 0)) (decide (owes De 5 2 = 0)) (decide (owes De 5 3 = 0)) (decide (owes De 5 4 = 0)) ⟨2, by decide⟩
    simp only [ridR, or_if, s0, s1, s2, s3, s4]
    simpa using this
  | 5, _, 3, _ =>
    have := bit5 (decide (owes De 5 0 = 0)) (decide (owes De 5 1 = 0)) (decide (owes De 5 2 = 0)) (decide (owes De 5 3 = 0)) (decide (owes De 5 4 = 0)) ⟨3, by decide⟩
    simp only [ridR, or_if, s0, s1, s2, s3, s4]
    simpa using this
  | 5, _, 4, _ =>
    have := bit5 (decide (owes De 5 0 = 0)) (decide (owes De 5 1 = 0)) (decide (owes De 5 2 = 0)) (decide (owes De 5 3 = 0)) (decide (owes De 5 4 = 0)) ⟨4, by decide⟩
    simp only [ridR, or_if, s0, s1, s2, s3, s4]
    simpa using this
theorem M_rode_L (hN : NaOK P Na) (hP : P ≤ 5) : ∀ (k i : Nat) (Da : Int32) (now rode : Nat → Int32) (paid : Int32) (n : Nat), i + k = 31 → k < n → RR P now Da Dr Na (dM P Na Wa Dr Mo De i) Wa (dD P Na Wa Dr Mo De i) → (∀ j, j < i → rode j = rid (dD P Na Wa Dr Mo De j) P) → ∃ now' paid' rode', f_X8_isSoWith_L14 (nI P) n (nI i) now paid rode = some (now', paid', rode') ∧ ∀ j, j < 31 → rode' j = rid (dD P Na Wa Dr Mo De j) P := by
  intro k
  induction k with
  | zero =>
    intro i Da now rode paid n hi hn hR hr
    obtain ⟨n, rfl⟩ : ∃ m, n = m + 1 := ⟨n - 1, by omega⟩
    have e : (30 : Int32) = nI 30 := rfl
    rw [f_X8_isSoWith_L14, e, if_pos (nI_lt (by omega) (by omega))]
    exact ⟨_, _, _, rfl, fun j hj => hr j (by omega)⟩
  | succ k ih =>
    intro i Da now rode paid n hi hn hR hr
    obtain ⟨n, rfl⟩ : ∃ m, n = m + 1 := ⟨n - 1, by omega⟩
    have e : (30 : Int32) = nI 30 := rfl
    obtain ⟨n1, q1, e1, h1⟩ := M_day hR hN hP paid
    rw [f_X8_isSoWith_L14, e, if_neg (nI_nlt (by omega) (by omega)), M_riding hR hP, b1_some, wr_nI (by omega) (by omega), b1_some, e1, b2_some, nI_1]
    rw [dM_s, dD_s] at h1
    refine ih (i + 1) _ _ _ _ n (by omega) (by omega) h1 (fun j hj => ?_)
    by_cases c : j = i
    · subst c; exact upd_s
    · rw [upd_n c]; exact hr j (by omega)
theorem M_fit_L {s : Nat} (hs : s ≤ 6) (hP : P ≤ 5) (h42 : st 42 = nI s) (D : Nat → Nat → Int32) (rode : Nat → Int32) (hr : ∀ j, j < 31 → rode j = rid (D j) P) (hS : ∀ i, i < s → ∃ d w, d ≤ 30 ∧ w < P ∧ Dy i = nI d ∧ Wo i = nI w ∧ (Ri i = 0 ∨ Ri i = 1) ∧ st (43 + 3 * i) = Dy i ∧ st (43 + 3 * i + 1) = Wo i ∧ st (43 + 3 * i + 2) = Ri i) : ∀ (k i n : Nat), i + k = s → k < n → f_X8_isSoWith_L48 st rode n (bI (fitB D P Dy Wo Ri i)) (nI i) = some (bI (fitB D P Dy Wo Ri s)) := by
  intro k
  induction k with
  | zero =>
    intro i n hi hn
    obtain ⟨n, rfl⟩ : ∃ m, n = m + 1 := ⟨n - 1, by omega⟩
    have r42 : rd st 183 42 = some (st 42) := rd183 (i := 42) (by omega)
    rw [f_X8_isSoWith_L48, r42, b1_some, h42, if_pos (nI_le (by omega) (by omega))]
    have : i = s := by omega
    rw [this]
  | succ k ih =>
    intro i n hi hn
    obtain ⟨n, rfl⟩ : ∃ m, n = m + 1 := ⟨n - 1, by omega⟩
    obtain ⟨d, w, a1, a2, a3, a4, a5, a6, a7, a8⟩ := hS i (by omega)
    have r42 : rd st 183 42 = some (st 42) := rd183 (i := 42) (by omega)
    have ix : (43 : Int32) + 3 * nI i = nI (43 + 3 * i) := by
      have e1 : (43 : Int32) = nI 43 := rfl
      have e2 : (3 : Int32) = nI 3 := rfl
      rw [e1, e2, pk_mul, nI_add]
    have ix2 : nI (43 + 3 * i) + 2 = nI (43 + 3 * i + 2) := by
      have e2 : (2 : Int32) = nI 2 := rfl
      rw [e2, nI_add]
    have rest := ih (i + 1) n (by omega) (by omega)
    rw [f_X8_isSoWith_L48, r42, b1_some, h42, if_neg (nI_ge (by omega) (by omega)), ix, nI_1, nI_1, ix2, rd183 (by omega), b1_some, a6, a3, rd_nI (by omega) (by omega), b1_some, rd183 (by omega), b1_some, a7, a4, rd183 (by omega), b1_some, a8, hr d (by omega), rid_bit a2 hP]
    have g := gd_eq (P := P) (Ri := Ri) D a1 (w := w) (by omega) a3 a4
    rw [fitB, g] at rest
    cases hf : fitB D P Dy Wo Ri i with
    | false =>
      rw [hf] at rest
      rw [if_pos (by rfl)]
      exact rest
    | true =>
      rw [hf, Bool.true_and] at rest
      rw [if_neg (by decide)]
      rcases a5 with z | z
      · rw [z] at rest ⊢
        by_cases c : owes (D d) P w = 0
        · rw [if_pos c, if_neg (by decide)]
          simp only [c, decide_true] at rest
          exact rest
        · rw [if_neg c, if_pos rfl]
          simp only [c, decide_false] at rest
          exact rest
      · rw [z] at rest ⊢
        by_cases c : owes (D d) P w = 0
        · rw [if_pos c, if_pos rfl]
          simp only [c, decide_true] at rest
          exact rest
        · rw [if_neg c, if_neg (by decide)]
          simp only [c, decide_false] at rest
          exact rest
theorem bz_bI (b : Bool) : bz (bI b) = some (bI b) := by cases b <;> rfl
/-- the reference's test, from the row that was changed -/
theorem M_isSo (h : SN P st Dy Wo Ri Sz) (hP : P ≤ 5) {n1 n2 : Nat → Int32} {p what v : Int32} {now rode : Nat → Int32} {paid : Int32} (e1 : f_X8_starts st now = some n1) (e2 : f_X8_becomesOf n1 p what v = some n2) (hR : RR P n2 Da Dr Na Mo Wa De) (hN : NaOK P Na) : ∃ s now' paid' rode', Sz = nI s ∧ s ≤ 6 ∧ f_X8_isSoWith st now (nI P) paid rode p what v = some (bI (fitB (dD P Na Wa Dr Mo De) P Dy Wo Ri s), now', paid', rode') ∧ ∀ j, j < 31 → rode' j = rid (dD P Na Wa Dr Mo De j) P := by
  obtain ⟨s, hs, rfl, h42, h4⟩ := h
  obtain ⟨n3, q3, rode3, e3, h3⟩ := M_rode_L (Mo := Mo) (De := De) hN hP 31 0 Da n2 rode paid 400 (by omega) (by omega) hR (fun j hj => absurd hj (by omega))
  rw [nI_0] at e3
  have e4 := M_fit_L hs hP h42 (dD P Na Wa Dr Mo De) rode3 h3 h4 s 0 400 (by omega) (by omega)
  rw [nI_0] at e4
  have e4' : f_X8_isSoWith_L48 st rode3 400 1 0 = _ := e4
  unfold f_X8_isSoWith
  rw [e1, b1_some, e2, b1_some, e3, b3_some, e4', b1_some, bz_bI, b1_some]
  exact ⟨s, _, _, _, rfl, hs, rfl, h3⟩
end E12
