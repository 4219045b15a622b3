/-! ===== L2: sheets, counts ===== -/
section E9
theorem SH.frame {k : Nat} {Th La Sz : Int32} {Ce La1 Sz1 Ce1 La2 Sz2 Ce2 : Nat → Int32} (h : SH k Th La Sz Ce La1 Sz1 Ce1) (a : La2 k = La1 k) (b : Sz2 k = Sz1 k) (c : ∀ i, i < 40 → Ce2 (40 * k + i) = Ce1 (40 * k + i)) : SH k Th La Sz Ce La2 Sz2 Ce2 := by
  rcases h with ⟨h1, h2⟩ | ⟨h1, l, n, h2, h3, h4, h5, h6, h7, h8⟩
  · exact Or.inl ⟨h1, a.trans h2⟩
  · exact Or.inr ⟨h1, l, n, h2, h3, h4, a.trans h5, h6, b.trans h7, fun i hi => (c i hi).trans (h8 i hi)⟩
theorem X_isSheet (x : Int32) : f_X7_isSheet x = some (tb x 0 3) := by
  unfold f_X7_isSheet
  rw [X_within x 0 3 rfl rfl, b1_some, bz_tb, b1_some]
theorem M_sheet_L {k : Nat} (hk : k < 4) (c0 : Nat → Int32) : ∀ (d i : Nat) (c : Nat → Int32) (n : Nat), i + d = 40 → d < n → (∀ j, j < i → c (40 * k + j) = 0) → (∀ j, (j < 40 * k ∨ 40 * k + i ≤ j) → c j = c0 j) → ∃ c', f_X8_sheet_L40 (nI k) n (nI i) c = some c' ∧ (∀ j, j < 40 → c' (40 * k + j) = 0) ∧ ∀ j, (j < 40 * k ∨ 40 * k + 40 ≤ j) → c' j = c0 j := by
  intro d
  induction d with
  | zero =>
    intro i c n hi hn h1 h2
    obtain ⟨n, rfl⟩ : ∃ m, n = m + 1 := ⟨n - 1, by omega⟩
    have e : (40 : Int32) = nI 40 := rfl
    rw [f_X8_sheet_L40, e, if_pos (nI_le (by omega) (by omega))]
    exact ⟨c, rfl, fun j hj => h1 j (by omega), fun j hj => h2 j (by omega)⟩
  | succ d ih =>
    intro i c n hi hn h1 h2
    obtain ⟨n, rfl⟩ : ∃ m, n = m + 1 := ⟨n - 1, by omega⟩
    have e : (40 : Int32) = nI 40 := rfl
    rw [f_X8_sheet_L40, e, if_neg (nI_ge (by omega) (by omega)), pk_mul, nI_add, wr_nI (by omega) (by omega), b1_some, nI_1]
    refine ih (i + 1) _ n (by omega) (by omega) (fun j hj => ?_) (fun j hj => ?_)
    · by_cases c : j = i
      · subst c; rw [upd_s]
      · rw [upd_n (by omega)]; exact h1 j (by omega)
    · rw [upd_n (by omega)]; exact h2 j (by omega)
variable {y0Th y0La y0Sz y1Th y1La y1Sz y2Th y2La y2Sz y3Th y3La y3Sz : Int32} {y0Ce y1Ce y2Ce y3Ce La Sz Ce : Nat → Int32}
theorem e_sheet (h0 : SH 0 y0Th y0La y0Sz y0Ce La Sz Ce) (h1 : SH 1 y1Th y1La y1Sz y1Ce La Sz Ce) (h2 : SH 2 y2Th y2La y2Sz y2Ce La Sz Ce) (h3 : SH 3 y3Th y3La y3Sz y3Ce La Sz Ce) (x y z : Int32) : ∃ r a0 b0 c0 d0 a1 b1 c1 d1 a2 b2 c2 d2 a3 b3 c3 d3 La' Sz' Ce', f_X7_sheet y0Th y0La y0Sz y0Ce y1Th y1La y1Sz y1Ce y2Th y2La y2Sz y2Ce y3Th y3La y3Sz y3Ce x y z = some (r, a0, b0, c0, d0, a1, b1, c1, d1, a2, b2, c2, d2, a3, b3, c3, d3) ∧ f_X8_sheet La Sz Ce x y z = some (r, La', Sz', Ce') ∧ SH 0 a0 b0 c0 d0 La' Sz' Ce' ∧ SH 1 a1 b1 c1 d1 La' Sz' Ce' ∧ SH 2 a2 b2 c2 d2 La' Sz' Ce' ∧ SH 3 a3 b3 c3 d3 La' Sz' Ce' := by
  unfold f_X7_sheet f_X8_sheet f_X8_isSheet
  rw [X_isSheet, X_within y 0 2 rfl rfl, M_in x 0 3 rfl rfl, M_in y 0 2 rfl rfl]
  simp only [b1_some]
  rcases tb_cases x 0 3 with ⟨t, -⟩ | ⟨t, -⟩
  · obtain ⟨k, -, hk, rfl⟩ := tb_nI (lo := 0) (hi := 3) t
    rw [t, if_neg n10, if_neg n10]
    rcases tb_cases y 0 2 with ⟨s, -⟩ | ⟨s, -⟩
    · obtain ⟨l, -, hl, rfl⟩ := tb_nI (lo := 0) (hi := 2) s
      rw [s, if_neg n10, if_neg n10, b1_some, if_neg n10]
      by_cases c1 : z ≤ 40
      · rw [if_pos c1, if_pos c1]
        by_cases c2 : 0 ≤ z
        · obtain ⟨n, hn, rfl⟩ := nI_of2 (x := z) (M := 40) (n := 40) rfl (Int32.not_lt.mpr c2) c1
          obtain ⟨c', e1, g1, g2⟩ := M_sheet_L (k := k) (by omega) Ce 40 0 Ce 400 (by omega) (by omega) (fun j hj => absurd hj (by omega)) (fun _ _ => rfl)
          rw [nI_0] at e1
          rw [if_pos c2, if_pos c2, wr_nI (by omega) (by omega), b1_some, wr_nI (by omega) (by omega), b1_some, e1, b1_some]
          unfold f_X6_renew
          have new : SH k 1 (nI l) (nI n) (fun _ => 0) (upd La k (nI l)) (upd Sz k (nI n)) c' := Or.inr ⟨rfl, l, n, hl, hn, rfl, upd_s, rfl, upd_s, fun i hi => g1 i hi⟩
          have old : ∀ (j : Nat) (a b c : Int32) (d : Nat → Int32), j ≠ k → SH j a b c d La Sz Ce → SH j a b c d (upd La k (nI l)) (upd Sz k (nI n)) c' := fun j a b c d hne hh => hh.frame (upd_n hne) (upd_n hne) (fun i hi => g2 _ (by omega))
          match k, hk, new, old with
          | 0, _, new, old =>
            rw [if_pos (by rfl), b4_some]
            exact ⟨_, _, _, _, _, _, _, _, _, _, _, _, _, _, _, _, _, _, _, _, rfl, rfl, new, old 1 _ _ _ _ (by omega) h1, old 2 _ _ _ _ (by omega) h2, old 3 _ _ _ _ (by omega) h3⟩
          | 1, _, new, old =>
            rw [if_neg (by decide), if_pos (by rfl), b4_some]
            exact ⟨_, _, _, _, _, _, _, _, _, _, _, _, _, _, _, _, _, _, _, _, rfl, rfl, old 0 _ _ _ _ (by omega) h0, new, old 2 _ _ _ _ (by omega) h2, old 3 _ _ _ _ (by omega) h3⟩
          | 2, _, new, old =>
            rw [if_neg (by decide), if_neg (by decide), if_pos (by rfl), b4_some]
            exact ⟨_, _, _, _, _, _, _, _, _, _, _, _, _, _, _, _, _, _, _, _, rfl, rfl, old 0 _ _ _ _ (by omega) h0, old 1 _ _ _ _ (by omega) h1, new, old 3 _ _ _ _ (by omega) h3⟩
          | 3, _, new, old =>
            rw [if_neg (by decide), if_neg (by decide), if_neg (by decide), if_pos (by rfl), b4_some]
            exact ⟨_, _, _, _, _, _, _, _, _, _, _, _, _, _, _, _, _, _, _, _, rfl, rfl, old 0 _ _ _ _ (by omega) h0, old 1 _ _ _ _ (by omega) h1, old 2 _ _ _ _ (by omega) h2, new⟩
        · rw [if_neg c2, if_neg c2]
          exact ⟨_, _, _, _, _, _, _, _, _, _, _, _, _, _, _, _, _, _, _, _, rfl, rfl, h0, h1, h2, h3⟩
      · rw [if_neg c1, if_neg c1]
        exact ⟨_, _, _, _, _, _, _, _, _, _, _, _, _, _, _, _, _, _, _, _, rfl, rfl, h0, h1, h2, h3⟩
    · rw [s]; exact ⟨_, _, _, _, _, _, _, _, _, _, _, _, _, _, _, _, _, _, _, _, rfl, rfl, h0, h1, h2, h3⟩
  · rw [t]; exact ⟨_, _, _, _, _, _, _, _, _, _, _, _, _, _, _, _, _, _, _, _, rfl, rfl, h0, h1, h2, h3⟩
/-- a cell laid: the sheet and the reference's rows -/
theorem lay_one {k : Nat} (hk : k < 4) {Th L S : Int32} {C : Nat → Int32} (h : SH k Th L S C La Sz Ce) (x z : Int32) : (∃ f, f_X6_faultOfLaying Th S x = some f ∧ f ≠ 0 ∧ f_X8_lay La Sz Ce (nI k) x z = some (-10 - f, Ce)) ∨ (∃ C' Ce', f_X6_faultOfLaying Th S x = some 0 ∧ f_X6_put L C x z = some C' ∧ f_X8_lay La Sz Ce (nI k) x z = some (1, Ce') ∧ SH k Th L S C' La Sz Ce' ∧ ∀ j, (j < 40 * k ∨ 40 * k + 40 ≤ j) → Ce' j = Ce j) := by
  unfold f_X6_faultOfLaying f_X8_lay f_X8_isSheet
  have t : tb (nI k) 0 3 = 1 := by unfold tb; rw [if_pos]; rw [nI_toInt (by omega)]; omega
  have t2 : f_X8_in (0 : Int32).toInt64 0 2 = some 1 := by decide +kernel
  rw [M_in (nI k) 0 3 rfl rfl, t, t2]
  simp only [b1_some, if_neg n10]
  rw [rd_nI (by omega) (by omega)]
  simp only [b1_some]
  rcases h with ⟨h1, h2⟩ | ⟨h1, l, n, h2, h3, h4, h5, h6, h7, h8⟩
  · left
    rw [if_pos h1, if_pos h2]
    exact ⟨1, rfl, by decide, rfl⟩
  · subst h1 h4 h6
    rw [if_neg n10, h5, if_neg (nI_ne4 (by omega)), rd_nI (by omega) (by omega), b1_some, h7]
    have hm : ((nI n - 1).toInt64).toInt = (n : Int) - 1 := by
      rw [Int32.toInt_toInt64]
      have := pk_sub_toInt (a := n) (b := 1) (by omega) (by omega)
      exact this
    rw [M_in x 0 ((n : Int) - 1) rfl hm, b1_some]
    rcases tb_cases x 0 ((n : Int) - 1) with ⟨s, s1, s2⟩ | ⟨s, s1⟩
    · right
      have hx : ¬ x < 0 := by intro z; have := Int32.lt_iff_toInt_lt.mp z; have h0 : (0 : Int32).toInt = 0 := rfl; omega
      obtain ⟨i, hi, rfl⟩ := nI_of hx
      rw [nI_toInt hi] at s2
      rw [s, if_neg n10, if_neg hx, if_neg (nI_ge (by omega) (by omega))]
      have e40 : (40 : Int32) = nI 40 := rfl
      unfold f_X6_put
      rw [e40, pk_mul, nI_add, wr_nI (by omega) (by omega), wr_nI (by omega) (by omega), wr_nI (by omega) (by omega)]
      simp only [b1_some]
      have key : ∀ v : Int32, SH k 1 (nI l) (nI n) (upd C i v) La Sz (upd Ce (40 * k + i) v) ∧ ∀ j, (j < 40 * k ∨ 40 * k + 40 ≤ j) → upd Ce (40 * k + i) v j = Ce j := by
        intro v
        refine ⟨Or.inr ⟨rfl, l, n, h2, h3, rfl, h5, rfl, h7, fun j hj => ?_⟩, fun j hj => upd_n (by omega)⟩
        by_cases c : j = i
        · subst c; rw [upd_s, upd_s]
        · rw [upd_n (by omega), upd_n c]; exact h8 j hj
      by_cases c0 : nI l = 0
      · simp only [if_pos c0, b1_some]
        rw [wr_nI (by omega) (by omega), b1_some]
        exact ⟨_, _, trivial, rfl, rfl, (key _).1, (key _).2⟩
      · simp only [if_neg c0]
        by_cases c1 : nI l = 1
        · simp only [if_pos c1, b1_some]
          rw [wr_nI (by omega) (by omega), b1_some]
          exact ⟨_, _, trivial, rfl, rfl, (key _).1, (key _).2⟩
        · simp only [if_neg c1, b1_some]
          rw [wr_nI (by omega) (by omega), b1_some]
          exact ⟨_, _, trivial, rfl, rfl, (key _).1, (key _).2⟩
    · left
      rw [s, if_pos rfl]
      refine ⟨2, ?_, by decide, rfl⟩
      by_cases c : x < 0
      · rw [if_pos c]
      · rw [if_neg c, if_pos]
        have h9 := Int32.le_iff_toInt_le.mp (Int32.not_lt.mp c)
        have h0 : (0 : Int32).toInt = 0 := rfl
        refine Int32.le_iff_toInt_le.mpr ?_
        rw [nI_toInt (by omega)]; omega
theorem e_lay (h0 : SH 0 y0Th y0La y0Sz y0Ce La Sz Ce) (h1 : SH 1 y1Th y1La y1Sz y1Ce La Sz Ce) (h2 : SH 2 y2Th y2La y2Sz y2Ce La Sz Ce) (h3 : SH 3 y3Th y3La y3Sz y3Ce La Sz Ce) (x y z : Int32) : ∃ r d0 d1 d2 d3 Ce', f_X7_lay y0Th y0La y0Sz y0Ce y1Th y1La y1Sz y1Ce y2Th y2La y2Sz y2Ce y3Th y3La y3Sz y3Ce x y z = some (r, d0, d1, d2, d3) ∧ f_X8_lay La Sz Ce x y z = some (r, Ce') ∧ SH 0 y0Th y0La y0Sz d0 La Sz Ce' ∧ SH 1 y1Th y1La y1Sz d1 La Sz Ce' ∧ SH 2 y2Th y2La y2Sz d2 La Sz Ce' ∧ SH 3 y3Th y3La y3Sz d3 La Sz Ce' := by
  rcases tb_cases x 0 3 with ⟨t, -⟩ | ⟨t, -⟩
  · obtain ⟨k, -, hk, rfl⟩ := tb_nI (lo := 0) (hi := 3) t
    unfold f_X7_lay
    rw [X_isSheet, t, b1_some, if_neg n10]
    have old : ∀ (Ce' : Nat → Int32) (j : Nat) (a b c : Int32) (d : Nat → Int32), (∀ j, (j < 40 * k ∨ 40 * k + 40 ≤ j) → Ce' j = Ce j) → j ≠ k → SH j a b c d La Sz Ce → SH j a b c d La Sz Ce' := fun Ce' j a b c d g hne hh => hh.frame rfl rfl (fun i hi => g _ (by omega))
    match k, hk, old with
    | 0, _, old =>
      rw [if_pos (by rfl)]
      rcases lay_one (k := 0) (by omega) h0 y z with ⟨f, e1, e2, e3⟩ | ⟨C', Ce', e1, e2, e3, e4, e5⟩
      · rw [e1, b1_some, if_neg e2, e3]
        exact ⟨_, _, _, _, _, _, rfl, rfl, h0, h1, h2, h3⟩
      · rw [e1, b1_some, if_pos rfl, if_pos (by rfl), e2, b1_some, e3]
        exact ⟨_, _, _, _, _, _, rfl, rfl, e4, old Ce' 1 _ _ _ _ e5 (by omega) h1, old Ce' 2 _ _ _ _ e5 (by omega) h2, old Ce' 3 _ _ _ _ e5 (by omega) h3⟩
    | 1, _, old =>
      rw [if_neg (by decide), if_pos (by rfl)]
      rcases lay_one (k := 1) (by omega) h1 y z with ⟨f, e1, e2, e3⟩ | ⟨C', Ce', e1, e2, e3, e4, e5⟩
      · rw [e1, b1_some, if_neg e2, e3]
        exact ⟨_, _, _, _, _, _, rfl, rfl, h0, h1, h2, h3⟩
      · rw [e1, b1_some, if_pos rfl, if_neg (by decide), if_pos (by rfl), e2, b1_some, e3]
        exact ⟨_, _, _, _, _, _, rfl, rfl, old Ce' 0 _ _ _ _ e5 (by omega) h0, e4, old Ce' 2 _ _ _ _ e5 (by omega) h2, old Ce' 3 _ _ _ _ e5 (by omega) h3⟩
    | 2, _, old =>
      rw [if_neg (by decide), if_neg (by decide), if_pos (by rfl)]
      rcases lay_one (k := 2) (by omega) h2 y z with ⟨f, e1, e2, e3⟩ | ⟨C', Ce', e1, e2, e3, e4, e5⟩
      · rw [e1, b1_some, if_neg e2, e3]
        exact ⟨_, _, _, _, _, _, rfl, rfl, h0, h1, h2, h3⟩
      · rw [e1, b1_some, if_pos rfl, if_neg (by decide), if_neg (by decide), if_pos (by rfl), e2, b1_some, e3]
        exact ⟨_, _, _, _, _, _, rfl, rfl, old Ce' 0 _ _ _ _ e5 (by omega) h0, old Ce' 1 _ _ _ _ e5 (by omega) h1, e4, old Ce' 3 _ _ _ _ e5 (by omega) h3⟩
    | 3, _, old =>
      rw [if_neg (by decide), if_neg (by decide), if_neg (by decide), if_pos (by rfl)]
      rcases lay_one (k := 3) (by omega) h3 y z with ⟨f, e1, e2, e3⟩ | ⟨C', Ce', e1, e2, e3, e4, e5⟩
      · rw [e1, b1_some, if_neg e2, e3]
        exact ⟨_, _, _, _, _, _, rfl, rfl, h0, h1, h2, h3⟩
      · rw [e1, b1_some, if_pos rfl, if_neg (by decide), if_neg (by decide), if_neg (by decide), if_pos (by rfl), e2, b1_some, e3]
        exact ⟨_, _, _, _, _, _, rfl, rfl, old Ce' 0 _ _ _ _ e5 (by omega) h0, old Ce' 1 _ _ _ _ e5 (by omega) h1, old Ce' 2 _ _ _ _ e5 (by omega) h2, e4⟩
  · unfold f_X7_lay f_X8_lay f_X8_isSheet
    rw [X_isSheet, M_in x 0 3 rfl rfl, t]
    exact ⟨_, _, _, _, _, _, rfl, rfl, h0, h1, h2, h3⟩
end E9
section E10
variable {P : Nat} {st kept : Nat → Int32} {Da Dr : Int32} {Na Mo Wa De : Nat → Int32}
theorem count_L (h : ∀ i, i < 25 → st (15 + i) = De i) : ∀ (d i : Nat) (s : Int32) (n n2 : Nat), i + d = 25 → d < n → d < n2 → ∃ r, f_X1_debtsInAll_L4 De n s (nI i) = some r ∧ f_X8_count_L4 st n2 s (nI i) = some r := by
  intro d
  induction d with
  | zero =>
    intro i s n n2 hi hn hn2
    obtain ⟨n, rfl⟩ : ∃ m, n = m + 1 := ⟨n - 1, by omega⟩
    obtain ⟨n2, rfl⟩ : ∃ m, n2 = m + 1 := ⟨n2 - 1, by omega⟩
    have e : (25 : Int32) = nI 25 := rfl
    rw [f_X1_debtsInAll_L4, f_X8_count_L4, e, if_pos (nI_le (by omega) (by omega)), if_pos (nI_le (by omega) (by omega))]
    exact ⟨_, rfl, rfl⟩
  | succ d ih =>
    intro i s n n2 hi hn hn2
    obtain ⟨n, rfl⟩ : ∃ m, n = m + 1 := ⟨n - 1, by omega⟩
    obtain ⟨n2, rfl⟩ : ∃ m, n2 = m + 1 := ⟨n2 - 1, by omega⟩
    have e : (25 : Int32) = nI 25 := rfl
    have e15 : (15 : Int32) = nI 15 := rfl
    rw [f_X1_debtsInAll_L4, f_X8_count_L4, e, if_neg (nI_ge (by omega) (by omega)), if_neg (nI_ge (by omega) (by omega)), e15, nI_add, rd_nI (by omega) (by omega), b1_some, rd_nI (by omega) (by omega), b1_some, h i (by omega), nI_1]
    by_cases c : De i ≤ 0
    · rw [if_pos c, if_pos c, b1_some, flag_eq, b1_some, if_pos rfl, Int32.add_zero]
      exact ih (i + 1) _ n n2 (by omega) (by omega) (by omega)
    · rw [if_neg c, if_neg c, b1_some, flag_eq, b1_some, if_neg n10]
      exact ih (i + 1) _ n n2 (by omega) (by omega) (by omega)
theorem kept_eq (a b : Int32) : f_X7_imagesKept a b = some ((if a = 0 then 0 else 1) + (if b = 0 then 0 else 1)) := by
  have s2 : ∀ n s, f_X7_imagesKept_L4 a b (n + 1) s 2 = some s := by
    intro n s; rw [f_X7_imagesKept_L4, if_pos (by decide)]
  have s1 : ∀ n s, f_X7_imagesKept_L4 a b (n + 2) s 1 = some (s + (if b = 0 then 0 else 1)) := by
    intro n s
    rw [f_X7_imagesKept_L4, if_neg (by decide), if_neg (by decide), if_pos rfl]
    by_cases c : b = 0
    · rw [if_pos c, if_pos c, Int32.add_zero]; exact s2 n s
    · rw [if_neg c, if_neg c]; exact s2 n (s + 1)
  have s0 : ∀ n, f_X7_imagesKept_L4 a b (n + 3) 0 0 = some ((if a = 0 then 0 else 1) + (if b = 0 then 0 else 1)) := by
    intro n
    rw [f_X7_imagesKept_L4, if_neg (by decide), if_pos rfl]
    by_cases c : a = 0
    · rw [if_pos c, if_pos c]; exact s1 n 0
    · rw [if_neg c, if_neg c]; exact s1 n 1
  unfold f_X7_imagesKept
  have := s0 397
  rw [this, b1_some]
theorem e_count {i0Ke i1Ke Le taped y0Th y0La y0Sz sz : Int32} {y0Ce La Sz Ce : Nat → Int32} (h : RR P st Da Dr Na Mo Wa De) (hz : st 42 = sz) (k0 : kept 0 = i0Ke) (k1 : kept 1 = i1Ke) (hL : taped = Le) (h0 : SH 0 y0Th y0La y0Sz y0Ce La Sz Ce) (x : Int32) : ∃ r, f_X7_count De sz i0Ke i1Ke Le y0Th y0Sz x = some r ∧ f_X8_count st kept taped La Sz x = some r := by
  obtain ⟨c, e1, e2⟩ := count_L (st := st) (De := De) h.2.2.2 25 0 0 400 400 (by omega) (by omega) (by omega)
  rw [nI_0] at e1 e2
  have r42 : rd st 183 42 = some (st 42) := rd183 (i := 42) (by omega)
  have q0 : rd kept 2 0 = some (kept 0) := rd_nI (i := 0) (by omega) (by omega)
  have q1 : rd kept 2 1 = some (kept 1) := rd_nI (i := 1) (by omega) (by omega)
  have q2 : rd La 4 0 = some (La 0) := rd_nI (i := 0) (by omega) (by omega)
  have q3 : rd Sz 4 0 = some (Sz 0) := rd_nI (i := 0) (by omega) (by omega)
  unfold f_X7_count f_X8_count f_X1_debtsInAll
  rw [e2, b1_some, e1, b1_some, b1_some, r42, b1_some, hz, q0, b1_some, q1, q2, q3]
  simp only [flag_eq, b1_some]
  rw [k0, k1, hL]
  by_cases c0 : x = 0
  · rw [if_pos c0, if_pos c0]; exact ⟨_, rfl, rfl⟩
  rw [if_neg c0, if_neg c0]
  by_cases c1 : x = 1
  · rw [if_pos c1, if_pos c1]
    rw [kept_eq]; exact ⟨_, rfl, rfl⟩
  rw [if_neg c1, if_neg c1]
  by_cases c2 : x = 2
  · rw [if_pos c2, if_pos c2]; exact ⟨_, rfl, rfl⟩
  rw [if_neg c2, if_neg c2]
  by_cases c3 : x = 3
  · rw [if_pos c3, if_pos c3]
    rcases h0 with ⟨h1, h2⟩ | ⟨h1, l, n, h2, h3, h4, h5, h6, h7, h8⟩
    · rw [if_pos h1, if_pos h2]; exact ⟨_, rfl, rfl⟩
    · subst h1 h6
      rw [if_neg n10, h5, if_neg (nI_ne4 (by omega)), h7]; exact ⟨_, rfl, rfl⟩
  rw [if_neg c3, if_neg c3]
  by_cases c4 : x = 4
  · rw [if_pos c4]; exact ⟨_, rfl, rfl⟩
  rw [if_neg c4]; exact ⟨_, rfl, rfl⟩
end E10
