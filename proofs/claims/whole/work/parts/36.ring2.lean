/-! ===== L2: ring, clear ===== -/
section E16
variable {P : Nat} {st now : Nat → Int32} {Da Dr : Int32} {Na Mo Wa De : Nat → Int32}
theorem mn_nI {a b : Nat} (ha : a ≤ 1000) (hb : b ≤ 1000) : mn (nI a) (nI b) = nI (if b < a then b else a) := by
  unfold mn
  by_cases c : b < a
  · rw [if_pos (nI_lt c (by omega)), if_pos c]
  · rw [if_neg (nI_nlt (by omega) (by omega)), if_neg c]
theorem RD_ix {n : Nat} {r : Nat → Nat} (h : RD P De n r) (hP : P ≤ 5) {i : Nat} (hi : i < n) : r i < 5 ∧ r ((i + 1) % n) < 5 ∧ r i ≠ r ((i + 1) % n) ∧ (i + 1) % n < n := by
  obtain ⟨h1, h2, h3, h4, h5⟩ := h
  have hm : (i + 1) % n < n := Nat.mod_lt _ (by omega)
  have a := h3 i hi
  have b := h3 _ hm
  refine ⟨by omega, by omega, ?_, hm⟩
  by_cases c : i + 1 = n
  · have e : (i + 1) % n = 0 := by rw [c]; exact Nat.mod_self n
    rw [e]
    exact fun z => h4 0 i (by omega) hi z.symm
  · have e : (i + 1) % n = i + 1 := Nat.mod_eq_of_lt (by omega)
    rw [e]
    exact h4 i (i + 1) (by omega) (by omega)
theorem lesR_nI {n : Nat} {r : Nat → Nat} (h : RD P De n r) (hP : P ≤ 5) (hD : DeOK De) : ∀ (d i c0 : Nat), i + d ≤ n → c0 ≤ 100 → ∃ mu, lesR De r n d i (nI c0) = nI mu ∧ mu ≤ c0 ∧ ∀ j, i ≤ j → j < i + d → ∃ c, De (5 * r j + r ((j + 1) % n)) = nI c ∧ c ≤ 99 ∧ mu ≤ c := by
  intro d
  induction d with
  | zero => intro i c0 _ _; exact ⟨c0, rfl, Nat.le_refl _, fun j h1 h2 => absurd h2 (by omega)⟩
  | succ d ih =>
    intro i c0 hi hc0
    obtain ⟨a1, a2, -, -⟩ := RD_ix h hP (i := i) (by omega)
    obtain ⟨c, hc, ec⟩ := hD (5 * r i + r ((i + 1) % n)) (by omega)
    rw [lesR, ec, mn_nI (by omega) (by omega)]
    obtain ⟨mu, e1, e2, e3⟩ := ih (i + 1) (if c < c0 then c else c0) (by omega) (by split <;> omega)
    refine ⟨mu, e1, by split at e2 <;> omega, fun j h1 h2 => ?_⟩
    by_cases cj : j = i
    · subst cj; exact ⟨c, ec, hc, by split at e2 <;> omega⟩
    · exact e3 j (by omega) (by omega)
theorem lesR_99 {n : Nat} {r : Nat → Nat} (h : RD P De n r) (hP : P ≤ 5) (hD : DeOK De) : lesR De r n n 0 99 = lesR De r n n 0 100 := by
  obtain ⟨n', rfl⟩ : ∃ t, n = t + 1 := ⟨n - 1, by have := h.1; omega⟩
  obtain ⟨a1, a2, -, -⟩ := RD_ix h hP (i := 0) (by omega)
  obtain ⟨c, hc, ec⟩ := hD (5 * r 0 + r ((0 + 1) % (n' + 1))) (by omega)
  rw [lesR, lesR, ec]
  have e99 : (99 : Int32) = nI 99 := rfl
  have e100 : (100 : Int32) = nI 100 := rfl
  have : mn 99 (nI c) = mn 100 (nI c) := by
    rw [e99, e100, mn_nI (by omega) (by omega), mn_nI (by omega) (by omega)]
    congr 1
    split <;> split <;> omega
  rw [this]
theorem behind_eq {n i : Nat} {row : Nat → Int32} (hn : n ≤ 5) (hi : i < n) : f_X4_behind row (nI n) (nI i) = some (row ((i + 1) % n)) := by
  unfold f_X4_behind
  have r0 : rd row 5 0 = some (row 0) := rd_nI (i := 0) (by omega) (by omega)
  rw [nI_1]
  by_cases c : i + 1 = n
  · rw [if_pos (nI_le (by omega) (by omega)), r0, b1_some, c, Nat.mod_self]
  · rw [if_neg (nI_ge (by omega) (by omega)), rd_nI (by omega) (by omega), b1_some, Nat.mod_eq_of_lt (show i + 1 < n by omega)]
theorem X_least2_L {n : Nat} {r : Nat → Nat} {row : Nat → Int32} (h : RD P De n r) (hP : P ≤ 5) (hr : ∀ i, i < n → row i = nI (r i)) : ∀ (d i : Nat) (s : Int32) (fu : Nat), i + d = n → d < fu → f_X4_leastDebt_L5 row (nI n) De fu s (nI i) = some (lesR De r n d i s) := by
  have hn : n ≤ 5 := by have := h.2.1; omega
  intro d
  induction d with
  | zero =>
    intro i s fu hi hfu
    obtain ⟨fu, rfl⟩ : ∃ t, fu = t + 1 := ⟨fu - 1, by omega⟩
    rw [f_X4_leastDebt_L5, if_pos (nI_le (by omega) (by omega))]; rfl
  | succ d ih =>
    intro i s fu hi hfu
    obtain ⟨fu, rfl⟩ : ∃ t, fu = t + 1 := ⟨fu - 1, by omega⟩
    obtain ⟨a1, a2, -, a4⟩ := RD_ix h hP (i := i) (by omega)
    rw [f_X4_leastDebt_L5, if_neg (nI_ge (by omega) (by omega)), rd_nI (by omega) (by omega), b1_some, behind_eq hn (by omega), b1_some, hr i (by omega), hr _ a4, X_debt a1 a2, b1_some, b1_some, nI_1]
    exact ih (i + 1) _ fu (by omega) (by omega)
theorem X_least2 {n : Nat} {r : Nat → Nat} {row : Nat → Int32} (h : RD P De n r) (hP : P ≤ 5) (hD : DeOK De) (hr : ∀ i, i < n → row i = nI (r i)) : f_X4_leastDebt row (nI n) De = some (lesR De r n n 0 100) := by
  unfold f_X4_leastDebt
  have := X_least2_L h hP hr n 0 99 400 (by omega) (by have := h.2.1; omega)
  rw [nI_0] at this
  rw [this, b1_some, lesR_99 h hP hD]
theorem lessen_both {n mu : Nat} {r : Nat → Nat} {fRo mRow : Nat → Int32} (h : RD P De n r) (hP : P ≤ 5) (hf : ∀ i, i < n → fRo i = nI (r i)) (hm : ∀ i, i < n → mRow i = nI (r i)) (hmu : ∀ j, j < n → ∃ c, De (5 * r j + r ((j + 1) % n)) = nI c ∧ c ≤ 99 ∧ mu ≤ c) : ∀ (d i : Nat) (De' now' : Nat → Int32) (fu fu2 : Nat), i + d = n → d < fu → d < fu2 → RR P now' Da Dr Na Mo Wa De' → (∀ j, i ≤ j → j < n → De' (5 * r j + r ((j + 1) % n)) = De (5 * r j + r ((j + 1) % n))) → DeOK De' → DG De' → ∃ De'' now'', f_X4_lessen_L2 fRo (nI n) (nI mu) fu (nI i) De' = some De'' ∧ f_X8_clear_L31 (nI n) mRow (nI mu) fu2 (nI i) now' = some now'' ∧ RR P now'' Da Dr Na Mo Wa De'' ∧ DeOK De'' ∧ DG De'' ∧ Kp now' now'' := by
  have hn : n ≤ 5 := by have := h.2.1; omega
  have hn2 := h.1
  intro d
  induction d with
  | zero =>
    intro i De' now' fu fu2 hi hfu hfu2 hR hs h1 h2
    obtain ⟨fu, rfl⟩ : ∃ t, fu = t + 1 := ⟨fu - 1, by omega⟩
    obtain ⟨fu2, rfl⟩ : ∃ t, fu2 = t + 1 := ⟨fu2 - 1, by omega⟩
    rw [f_X4_lessen_L2, f_X8_clear_L31, if_pos (nI_le (by omega) (by omega)), if_pos (nI_le (by omega) (by omega))]
    exact ⟨_, _, rfl, rfl, hR, h1, h2, Kp.rf⟩
  | succ d ih =>
    intro i De' now' fu fu2 hi hfu hfu2 hR hs h1 h2
    obtain ⟨fu, rfl⟩ : ∃ t, fu = t + 1 := ⟨fu - 1, by omega⟩
    obtain ⟨fu2, rfl⟩ : ∃ t, fu2 = t + 1 := ⟨fu2 - 1, by omega⟩
    obtain ⟨a1, a2, a3, a4⟩ := RD_ix h hP (i := i) (by omega)
    obtain ⟨c, ec, hc, hcm⟩ := hmu i (by omega)
    have en : now' (15 + 5 * r i + r ((i + 1) % n)) = nI c := by
      rw [Nat.add_assoc, hR.2.2.2 _ (by omega), hs i (by omega) (by omega), ec]
    rw [f_X4_lessen_L2, f_X8_clear_L31, if_neg (nI_ge (by omega) (by omega)), if_neg (nI_ge (by omega) (by omega)), rd_nI (by omega) (by omega), b1_some, behind_eq hn (by omega), b1_some, b1_some, b1_some, hf i (by omega), hf _ a4, X_debt a1 a2, b1_some, hs i (by omega) (by omega), ec, pk_sub hcm, X_setDebt a1 a2, b1_some, rd_nI (by omega) (by omega), b1_some, nz_some (by omega) hn, b1_some, nI_1, pk_rem (by omega) (by omega) (by omega), rd_nI (by omega) (by omega), b1_some, hm i (by omega), hm _ a4, ix15, rd_nI (by omega) (by omega), b1_some, en, pk_sub hcm, wr_nI (by omega) (by omega), b1_some, Nat.add_assoc]
    obtain ⟨De'', now'', e1, e2, e3, e4, e5, e6⟩ := ih (i + 1) (upd De' (5 * r i + r ((i + 1) % n)) (nI (c - mu))) (upd now' (15 + (5 * r i + r ((i + 1) % n))) (nI (c - mu))) fu fu2 (by omega) (by omega) (by omega) (hR.debt (by omega) hP _) (fun j hj1 hj2 => by
      have hne := h.2.2.2.1 i j (by omega) hj2
      obtain ⟨b1, b2, -, -⟩ := RD_ix h hP (i := j) hj2
      rw [upd_n (by omega)]; exact hs j (by omega) hj2) (h1.upd (by omega)) (h2.upd a1 a2 a3 _)
    exact ⟨De'', now'', e1, e2, e3, e4, e5, (Kp.up (by omega)).tr e6⟩
theorem clear_L (hP : P ≤ 5) : ∀ (d i : Nat) (De now fRo mRow mRow0 : Nat → Int32) (fSz v mMu mMu0 : Int32) (fu fu2 : Nat), i + d = 25 → d < fu → d < fu2 → RR P now Da Dr Na Mo Wa De → DeOK De → DG De → f_X8_findRing now (nI P) mRow0 mMu0 = some (v, mRow, mMu) → ∃ De' fRo' fSz' now' mRow' mMu', f_X7_clear_L10 (nI P) fu (nI i) De fRo fSz = some (De', fRo', fSz') ∧ f_X8_clear_L16 (nI P) fu2 v (nI i) now mRow mMu = some (now', mRow', mMu') ∧ RR P now' Da Dr Na Mo Wa De' ∧ DeOK De' ∧ DG De' ∧ Kp now now' := by
  intro d
  induction d with
  | zero =>
    intro i De now fRo mRow mRow0 fSz v mMu mMu0 fu fu2 hi hfu hfu2 hR h1 h2 hf
    obtain ⟨fu, rfl⟩ : ∃ t, fu = t + 1 := ⟨fu - 1, by omega⟩
    obtain ⟨fu2, rfl⟩ : ∃ t, fu2 = t + 1 := ⟨fu2 - 1, by omega⟩
    have e : (25 : Int32) ≤ nI i := nI_le (a := 25) (by omega) (by omega)
    rw [f_X7_clear_L10, f_X8_clear_L16, if_pos e, if_pos e]
    exact ⟨_, _, _, _, _, _, rfl, rfl, hR, h1, h2, Kp.rf⟩
  | succ d ih =>
    intro i De now fRo mRow mRow0 fSz v mMu mMu0 fu fu2 hi hfu hfu2 hR h1 h2 hf
    obtain ⟨fu, rfl⟩ : ∃ t, fu = t + 1 := ⟨fu - 1, by omega⟩
    obtain ⟨fu2, rfl⟩ : ∃ t, fu2 = t + 1 := ⟨fu2 - 1, by omega⟩
    have e : ¬ (25 : Int32) ≤ nI i := nI_ge (b := 25) (by omega) (by omega)
    rw [f_X7_clear_L10, f_X8_clear_L16, if_neg e, if_neg e]
    rcases find_both hR hP fRo mRow0 fSz mMu0 with ⟨a, b, c, e1, e2⟩ | ⟨k, r, a, b, e1, e2, e3, e4, e5⟩
    · rw [e2] at hf
      cases hf
      rw [e1, b3_some, if_pos rfl, if_pos rfl]
      exact ⟨_, _, _, _, _, _, rfl, rfl, hR, h1, h2, Kp.rf⟩
    · rw [e2] at hf
      cases hf
      have hk5 : k ≤ 5 := by have := e3.2.1; omega
      obtain ⟨mu, m1, m2, m3⟩ := lesR_nI e3 hP h1 k 0 100 (by omega) (by omega)
      have m1' : lesR De r k k 0 100 = nI mu := m1
      obtain ⟨De', now', l1, l2, l3, l4, l5, l6⟩ := lessen_both e3 hP e4 e5 (fun j hj => m3 j (by omega) (by omega)) k 0 De now 400 400 (by omega) (by omega) (by omega) hR (fun _ _ _ => rfl) h1 h2
      rw [nI_0] at l1 l2
      rw [e1, b3_some, if_neg n10, X_least2 e3 hP h1 e4, b1_some, if_neg (nI_ne4 (by omega)), m1']
      unfold f_X4_lessen
      rw [l1, b1_some, b1_some, l2, b1_some, nI_1]
      have fr : ∃ v' row' mu', f_X8_findRing now' (nI P) mRow (nI mu) = some (v', row', mu') := by
        rcases find_both l3 hP fRo mRow fSz (nI mu) with ⟨a, b, c, e1, e2⟩ | ⟨k, r, a, b, e1, e2, e3, e4, e5⟩
        · exact ⟨_, _, _, e2⟩
        · exact ⟨_, _, _, e2⟩
      obtain ⟨v', row', mu', fr⟩ := fr
      rw [fr, b3_some]
      obtain ⟨x1, x2, x3, x4, x5, x6, y1, y2, y3, y4, y5, y6⟩ := ih (i + 1) De' now' a row' mRow (nI k) v' mu' (nI mu) fu fu2 (by omega) (by omega) (by omega) l3 l4 l5 fr
      exact ⟨x1, x2, x3, x4, x5, x6, y1, y2, y3, y4, y5, l6.tr y6⟩
theorem e_clear (h : LI P st Da Dr Na Mo Wa De) (now row fRo : Nat → Int32) (mu fSz : Int32) : ∃ r De' fRo' fSz' st' now' row' mu', f_X7_clear (nI P) De fRo fSz = some (r, De', fRo', fSz') ∧ f_X8_clear st now (nI P) row mu = some (r, st', now', row', mu') ∧ LI P st' Da Dr Na Mo Wa De' ∧ Kp st st' := by
  obtain ⟨n1, e1, h1, hR⟩ := e_start h now
  have hP := h.1
  have fr : ∃ v' row' mu', f_X8_findRing n1 (nI P) row mu = some (v', row', mu') := by
    rcases find_both hR hP fRo row fSz mu with ⟨a, b, c, e1, e2⟩ | ⟨k, r, a, b, e1, e2, e3, e4, e5⟩
    · exact ⟨_, _, _, e2⟩
    · exact ⟨_, _, _, e2⟩
  obtain ⟨v', row', mu', fr⟩ := fr
  obtain ⟨De', fRo', fSz', now', row'', mu'', x1, x2, x3, x4, x5, x6⟩ := clear_L hP 25 0 De n1 fRo row' row fSz v' mu' mu 400 400 (by omega) (by omega) (by omega) hR h.2.2.2.1 h.2.2.2.2 fr
  rw [nI_0] at x1 x2
  obtain ⟨s1, e4, h3, h4⟩ := e_settle st hP x3 (fun j a b => by rw [x6 j a]; exact h1 j b)
  unfold f_X7_clear f_X8_clear
  rw [X_owedInAll hP, b1_some, x1, b3_some, X_owedInAll hP, b1_some, e1, b1_some, M_allOwed hR hP, b1_some, fr, b3_some, x2, b3_some, e4, b1_some, M_allOwed x3 hP, b1_some]
  exact ⟨_, _, _, _, _, _, _, _, rfl, rfl, ⟨hP, h3, h.2.2.1, x4, x5⟩, h4⟩
theorem e_ring (h : LI P st Da Dr Na Mo Wa De) (now row fRo : Nat → Int32) (mu fSz x : Int32) : ∃ r fRo' fSz' now' row' mu', f_X7_ring (nI P) De fRo fSz x = some (r, fRo', fSz') ∧ f_X8_ring st now (nI P) row mu x = some (r, now', row', mu') := by
  obtain ⟨n1, e1, h1, hR⟩ := e_start h now
  have hP := h.1
  have key : (tb x 0 1 = 1 ∨ tb x 10 14 = 1) → ∃ r fRo' fSz' now' row' mu', f_X7_ring_B24 (nI P) De fRo fSz x = some (r, fRo', fSz') ∧ f_X8_ring_B23 st now (nI P) row mu x = some (r, now', row', mu') := by
    intro hx
    unfold f_X7_ring_B24 f_X8_ring_B23
    rw [e1, b1_some]
    rcases find_both hR hP fRo row fSz mu with ⟨a, b, c, f1, f2⟩ | ⟨k, r, a, b, f1, f2, f3, f4, f5⟩
    · rw [f1, b3_some, f2, b3_some, if_pos rfl, if_pos rfl]
      exact ⟨_, _, _, _, _, _, rfl, rfl⟩
    · have hk5 : k ≤ 5 := by have := f3.2.1; omega
      rw [f1, b3_some, f2, b3_some, if_neg n10, if_neg (nI_ne4 (by omega)), X_least2 f3 hP h.2.2.2.1 f4, b1_some]
      by_cases c0 : x = 0
      · rw [if_pos c0, if_pos c0]; exact ⟨_, _, _, _, _, _, rfl, rfl⟩
      rw [if_neg c0, if_neg c0]
      by_cases c1 : x = 1
      · rw [if_pos c1, if_pos c1]; exact ⟨_, _, _, _, _, _, rfl, rfl⟩
      rw [if_neg c1, if_neg c1]
      have h10 : tb x 10 14 = 1 := by
        rcases hx with z | z
        · rcases tb01 z with q | q
          · exact absurd q c0
          · exact absurd q c1
        · exact z
      obtain ⟨j, j1, j2, rfl⟩ := tb_nI (lo := 10) (hi := 14) h10
      have ej : nI j - 10 = nI (j - 10) := by
        have e10 : (10 : Int32) = nI 10 := rfl
        rw [e10, pk_sub j1]
      rw [ej]
      by_cases c2 : k ≤ j - 10
      · rw [if_pos (nI_le c2 (by omega)), if_pos (nI_le c2 (by omega))]; exact ⟨_, _, _, _, _, _, rfl, rfl⟩
      · rw [if_neg (nI_ge (by omega) (by omega)), if_neg (nI_ge (by omega) (by omega)), rd_nI (by omega) (by omega), b1_some, rd_nI (by omega) (by omega), b1_some, f4 _ (by omega), f5 _ (by omega)]
        exact ⟨_, _, _, _, _, _, rfl, rfl⟩
  unfold f_X7_ring f_X8_ring
  rw [X_within x 10 14 rfl rfl, X_within x 0 1 rfl rfl, M_isPart, M_in x 10 14 rfl rfl]
  simp only [b1_some]
  rcases tb_cases x 0 1 with ⟨t, -⟩ | ⟨t, -⟩
  · rw [t, if_neg n10, if_neg n10]; exact key (Or.inl t)
  · rcases tb_cases x 10 14 with ⟨s, -⟩ | ⟨s, -⟩
    · rw [t, s, if_pos rfl, if_pos rfl, if_neg n10, if_neg n10]; exact key (Or.inr s)
    · rw [t, s]; exact ⟨_, _, _, _, _, _, rfl, rfl⟩
end E16
