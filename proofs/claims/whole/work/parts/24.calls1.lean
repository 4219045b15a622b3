/-! ===== L2: calls that look, calls that change a number ===== -/
theorem rd183 {st : Nat → Int32} {i : Nat} (h : i < 183) : rd st 183 (nI i) = some (st i) := rd_nI h (by omega)
theorem n10 : ¬ (1 : Int32) = 0 := by decide
section E1
variable {P : Nat} {st now : Nat → Int32} {Da Dr : Int32} {Na Mo Wa De : Nat → Int32}
theorem e_start (h : LI P st Da Dr Na Mo Wa De) (now : Nat → Int32) : ∃ n1, f_X8_starts st now = some n1 ∧ (∀ j, j < 61 → n1 j = st j) ∧ RR P n1 Da Dr Na Mo Wa De := by
  obtain ⟨n1, e1, h1⟩ := M_starts st now
  exact ⟨n1, e1, h1, h.2.1.same h.1 (fun j hj => h1 j (by omega))⟩
theorem e_rule (h : LI P st Da Dr Na Mo Wa De) (now : Nat → Int32) (x : Int32) : ∃ r now', f_X7_rule (nI P) Da Dr Mo De x = some r ∧ f_X8_rule st now (nI P) x = some (r, now') := by
  obtain ⟨n1, e1, h1, hR⟩ := e_start h now
  have hP := h.1
  have r40 : rd st 183 40 = some (st 40) := rd183 (i := 40) (by omega)
  have r41 : rd st 183 41 = some (st 41) := rd183 (i := 41) (by omega)
  unfold f_X7_rule f_X8_rule
  rw [e1, b1_some, r40, b1_some, r41, b1_some, M_riding hR hP, b1_some, M_allOwed hR hP, b1_some, M_allMoney hR hP, b1_some, X_riders hP, b1_some, X_owedInAll hP, b1_some, X_moneyInAll hP, b1_some, h.2.1.1, h.2.1.2.1]
  by_cases c0 : x = 0
  · rw [if_pos c0, if_pos c0]; exact ⟨_, _, rfl, rfl⟩
  rw [if_neg c0, if_neg c0]
  by_cases c1 : x = 1
  · rw [if_pos c1, if_pos c1]; exact ⟨_, _, rfl, rfl⟩
  rw [if_neg c1, if_neg c1]
  by_cases c2 : x = 2
  · rw [if_pos c2, if_pos c2]; exact ⟨_, _, rfl, rfl⟩
  rw [if_neg c2, if_neg c2]
  by_cases c3 : x = 3
  · rw [if_pos c3, if_pos c3]; exact ⟨_, _, rfl, rfl⟩
  rw [if_neg c3, if_neg c3]
  by_cases c4 : x = 4
  · rw [if_pos c4, if_pos c4]; exact ⟨_, _, rfl, rfl⟩
  rw [if_neg c4, if_neg c4]
  by_cases c5 : x = 5
  · rw [if_pos c5, if_pos c5]; exact ⟨_, _, rfl, rfl⟩
  rw [if_neg c5, if_neg c5]; exact ⟨_, _, rfl, rfl⟩
theorem e_one (h : LI P st Da Dr Na Mo Wa De) (now : Nat → Int32) (x y : Int32) : ∃ r now', f_X7_one (nI P) Na Mo Wa De x y = some r ∧ f_X8_one st now (nI P) x y = some (r, now') := by
  obtain ⟨n1, e1, h1, hR⟩ := e_start h now
  have hP := h.1
  unfold f_X7_one f_X8_one
  rw [X_has hP, M_isOne hP, b1_some, b1_some]
  rcases one_cases hP x with c | ⟨p, hp, rfl, c⟩
  · rw [c]; exact ⟨_, _, rfl, rfl⟩
  rw [c, if_neg n10, if_neg n10, e1, b1_some, M_owesAll hR (by omega) hP, b1_some, M_isOwed hR (by omega) hP, b1_some, M_height hR h.2.2.1 h.2.2.2.1 hp hP, b1_some, M_will hR h.2.2.1 hp hP, b1_some, rd_nI (by omega) (by omega), b1_some, rd_nI (by omega) (by omega), b1_some, rd_nI (by omega) (by omega), b1_some, X_owedBy (by omega) hP, b1_some, X_owedTo (by omega) hP, b1_some, X_heightOf (by omega) hP, b1_some, X_willOf (by omega) hP, b1_some]
  obtain ⟨a0, a1, a2⟩ := hR.2.2.1 p hp
  by_cases c0 : y = 0
  · subst c0; rw [if_pos rfl, if_pos rfl, M_of0 (by omega), b1_some, a0]; exact ⟨_, _, rfl, rfl⟩
  rw [if_neg c0, if_neg c0]
  by_cases c1 : y = 1
  · subst c1; rw [if_pos rfl, if_pos rfl, M_of1 (by omega), b1_some, a1]; exact ⟨_, _, rfl, rfl⟩
  rw [if_neg c1, if_neg c1]
  by_cases c2 : y = 2
  · subst c2; rw [if_pos rfl, if_pos rfl, M_of2 (by omega), b1_some, a2]; exact ⟨_, _, rfl, rfl⟩
  rw [if_neg c2, if_neg c2]
  by_cases c3 : y = 3
  · rw [if_pos c3, if_pos c3]; exact ⟨_, _, rfl, rfl⟩
  rw [if_neg c3, if_neg c3]
  by_cases c4 : y = 4
  · rw [if_pos c4, if_pos c4]; exact ⟨_, _, rfl, rfl⟩
  rw [if_neg c4, if_neg c4]
  by_cases c5 : y = 5
  · rw [if_pos c5, if_pos c5]; exact ⟨_, _, rfl, rfl⟩
  rw [if_neg c5, if_neg c5]
  by_cases c6 : y = 6
  · rw [if_pos c6, if_pos c6]; exact ⟨_, _, rfl, rfl⟩
  rw [if_neg c6, if_neg c6]; exact ⟨_, _, rfl, rfl⟩
theorem e_owes (h : LI P st Da Dr Na Mo Wa De) (x y : Int32) : ∃ r, f_X7_owes (nI P) De x y = some r ∧ f_X8_owes st (nI P) x y = some r := by
  have hP := h.1
  unfold f_X7_owes f_X8_owes
  rw [X_hasPair hP]
  rcases pair_cases hP x y with c | ⟨p, q, hp, hq, hne, rfl, rfl, c⟩
  · rw [c]; exact ⟨_, rfl, rfl⟩
  · rw [c, b1_some, b1_some, if_neg n10, if_neg n10, X_debt (by omega) (by omega), b1_some, ix15, rd183 (by omega), b1_some, Nat.add_assoc, h.2.1.2.2.2 _ (by omega)]
    exact ⟨_, rfl, rfl⟩
theorem e_meet (h : LI P st Da Dr Na Mo Wa De) (now : Nat → Int32) (x y : Int32) : ∃ r now', f_X7_meet (nI P) Na De x y = some r ∧ f_X8_meet st now (nI P) x y = some (r, now') := by
  obtain ⟨n1, e1, h1, hR⟩ := e_start h now
  have hP := h.1
  unfold f_X7_meet f_X8_meet
  rw [X_hasPair hP]
  rcases pair_cases hP x y with c | ⟨p, q, hp, hq, hne, rfl, rfl, c⟩
  · rw [c]; exact ⟨_, _, rfl, rfl⟩
  rw [c, b1_some, b1_some, if_neg n10, if_neg n10, e1, b1_some, X_heightOf (by omega) hP, b1_some, X_heightOf (by omega) hP, b1_some, M_height hR h.2.2.1 h.2.2.2.1 hp hP, b1_some, M_height hR h.2.2.1 h.2.2.2.1 hq hP, b1_some]
  generalize hgt Na De P p = a
  generalize hgt Na De P q = b
  by_cases c1 : a = b
  · subst c1
    rw [if_pos rfl, if_pos (Int32.le_refl a), if_pos (Int32.le_refl a)]; exact ⟨_, _, rfl, rfl⟩
  · rw [if_neg c1]
    by_cases c2 : b ≤ a
    · rw [if_pos c2, if_pos c2, if_neg (fun z => c1 (Int32.le_antisymm z c2))]; exact ⟨_, _, rfl, rfl⟩
    · rw [if_neg c2, if_neg c2]; exact ⟨_, _, rfl, rfl⟩
theorem X_swap {f : Nat → Int32} {p : Nat} (hp : p < 5) (v : Int32) {b : Int32} (hi : Int) (hb : b.toInt = hi) : f_X7_swap f (nI p) v b = if tb v 0 hi = 0 then some (-1, f) else some (f p, upd f p v) := by
  unfold f_X7_swap
  rw [X_within v 0 hi rfl hb, b1_some, X_within (nI p) 0 4 rfl rfl, b1_some, rd_nI hp (by omega), b1_some, wr_nI hp (by omega), b1_some]
  have e : tb (nI p) 0 4 = 1 := by
    unfold tb; rw [if_pos]; rw [nI_toInt (by omega)]; omega
  rw [e]; rfl
theorem M_becomes {i : Nat} (hi : i < 183) (v : Int32) : f_X8_becomes st (nI i) v = some (st i, upd st i v) := by
  unfold f_X8_becomes
  rw [rd183 hi, b1_some, wr_nI hi (by omega), b1_some]
theorem tb_if (x : Int32) (lo hi : Int) : (if tb x lo hi = 0 then some (0 : Int32) else some 1) = some (tb x lo hi) := by
  rcases tb_cases x lo hi with ⟨h, -⟩ | ⟨h, -⟩ <;> rw [h] <;> rfl
theorem nat3 {x : Int32} (h : tb x 0 3 = 1) : x = 0 ∨ x = 1 ∨ x = 2 ∨ x = 3 := by
  rcases tb_cases x 0 3 with ⟨-, h1, h2⟩ | ⟨h', -⟩
  · have e : x.toInt = 0 ∨ x.toInt = 1 ∨ x.toInt = 2 ∨ x.toInt = 3 := by omega
    rcases e with e | e | e | e
    · exact Or.inl (Int32.toInt_inj.mp e)
    · exact Or.inr (Or.inl (Int32.toInt_inj.mp e))
    · exact Or.inr (Or.inr (Or.inl (Int32.toInt_inj.mp e)))
    · exact Or.inr (Or.inr (Or.inr (Int32.toInt_inj.mp e)))
  · rw [h'] at h; exact absurd h (by decide)
theorem NaOK.upd {Na : Nat → Int32} (h : NaOK P Na) {p : Nat} {v : Int32} (hv : v = 0 ∨ v = 1 ∨ v = 2 ∨ v = 3) : NaOK P (upd Na p v) := by
  intro j hj
  by_cases c : j = p
  · subst c; rw [upd_s]; exact hv
  · rw [upd_n c]; exact h j hj
theorem e_alter (h : LI P st Da Dr Na Mo Wa De) (x y v : Int32) : ∃ r Na' Mo' Wa' st', f_X7_alter (nI P) Na Mo Wa x y v = some (r, Na', Mo', Wa') ∧ f_X8_alter st (nI P) x y v = some (r, st') ∧ LI P st' Da Dr Na' Mo' Wa' De ∧ ∀ j, 42 ≤ j → st' j = st j := by
  have hP := h.1
  unfold f_X7_alter f_X8_alter
  rw [X_has hP, M_isOne hP, M_in v 0 3 rfl rfl, b1_some, b1_some, M_in v 0 999 rfl rfl, b1_some, M_in v 0 9 rfl rfl, b1_some, tb_if]
  rcases one_cases hP x with c | ⟨p, hp, rfl, c⟩
  · rw [c]
    refine ⟨-1, Na, Mo, Wa, st, rfl, ?_, h, fun _ _ => rfl⟩
    by_cases c0 : y = 0
    · rw [if_pos c0]; rfl
    rw [if_neg c0]
    by_cases c1 : y = 1
    · rw [if_pos c1]; rfl
    rw [if_neg c1]
    by_cases c2 : y = 2
    · rw [if_pos c2]; rfl
    rw [if_neg c2]; rfl
  rw [c, if_neg n10]
  obtain ⟨a0, a1, a2⟩ := h.2.1.2.2.1 p hp
  by_cases c0 : y = 0
  · subst c0
    rw [if_pos rfl, if_pos rfl, b1_some, b1_some, if_neg n10, X_swap (by omega) v 3 rfl]
    rcases tb_cases v 0 3 with ⟨t, -⟩ | ⟨t, -⟩
    · rw [t, if_neg n10, if_neg n10, b2_some, ix3 p 0 0 rfl, M_becomes (by omega), b2_some, Nat.add_zero, a0]
      exact ⟨_, _, _, _, _, rfl, rfl, ⟨hP, h.2.1.nature (by omega) hP v, h.2.2.1.upd (nat3 t), h.2.2.2⟩, fun j hj => upd_n (by omega)⟩
    · rw [t]; exact ⟨_, _, _, _, _, rfl, rfl, h, fun _ _ => rfl⟩
  rw [if_neg c0, if_neg c0]
  by_cases c1 : y = 1
  · subst c1
    rw [if_pos rfl, if_pos rfl, b1_some, b1_some, if_neg n10, X_swap (by omega) v 999 rfl]
    rcases tb_cases v 0 999 with ⟨t, -⟩ | ⟨t, -⟩
    · rw [t, if_neg n10, if_neg n10, b2_some, ix3 p 1 1 rfl, M_becomes (by omega), b2_some, a1]
      exact ⟨_, _, _, _, _, rfl, rfl, ⟨hP, h.2.1.money (by omega) hP v, h.2.2⟩, fun j hj => upd_n (by omega)⟩
    · rw [t]; exact ⟨_, _, _, _, _, rfl, rfl, h, fun _ _ => rfl⟩
  rw [if_neg c1, if_neg c1]
  by_cases c2 : y = 2
  · subst c2
    rw [if_pos rfl, if_pos rfl, b1_some, b1_some, if_neg n10, X_swap (by omega) v 9 rfl]
    rcases tb_cases v 0 9 with ⟨t, -⟩ | ⟨t, -⟩
    · rw [t, if_neg n10, if_neg n10, b2_some, ix3 p 2 2 rfl, M_becomes (by omega), b2_some, a2]
      exact ⟨_, _, _, _, _, rfl, rfl, ⟨hP, h.2.1.wage (by omega) hP v, h.2.2⟩, fun j hj => upd_n (by omega)⟩
    · rw [t]; exact ⟨_, _, _, _, _, rfl, rfl, h, fun _ _ => rfl⟩
  rw [if_neg c2, if_neg c2]
  exact ⟨_, _, _, _, _, rfl, rfl, h, fun _ _ => rfl⟩
theorem tb_nI {x : Int32} {lo hi : Nat} (h : tb x lo hi = 1) : ∃ k, lo ≤ k ∧ k ≤ hi ∧ x = nI k := by
  rcases tb_cases x lo hi with ⟨-, h1, h2⟩ | ⟨h', -⟩
  · obtain ⟨j, hj, e⟩ := nI_of (x := x) (fun c => by have := Int32.lt_iff_toInt_lt.mp c; have h3 : (0 : Int32).toInt = 0 := rfl; omega)
    have := nI_toInt hj
    subst e
    exact ⟨j, by omega, by omega, rfl⟩
  · rw [h'] at h; exact absurd h (by decide)
theorem e_bond (h : LI P st Da Dr Na Mo Wa De) (x y v : Int32) : ∃ r De' st', f_X7_bond (nI P) De x y v = some (r, De') ∧ f_X8_bond st (nI P) x y v = some (r, st') ∧ LI P st' Da Dr Na Mo Wa De' ∧ ∀ j, 42 ≤ j → st' j = st j := by
  have hP := h.1
  unfold f_X7_bond f_X8_bond
  rw [X_hasPair hP, X_within v 0 99 rfl rfl, M_in v 0 99 rfl rfl]
  rcases pair_cases hP x y with c | ⟨p, q, hp, hq, hne, rfl, rfl, c⟩
  · rw [c]; exact ⟨_, _, _, rfl, rfl, h, fun _ _ => rfl⟩
  simp only [c, b1_some, if_neg n10]
  rcases tb_cases v 0 99 with ⟨t, -⟩ | ⟨t, -⟩
  · obtain ⟨k, -, hk, rfl⟩ := tb_nI (lo := 0) (hi := 99) t
    rw [t, if_neg n10, if_neg n10, X_debt (by omega) (by omega), b1_some, X_setDebt (by omega) (by omega), b1_some, ix15, M_becomes (by omega), b2_some, Nat.add_assoc, h.2.1.2.2.2 _ (by omega)]
    exact ⟨_, _, _, rfl, rfl, ⟨hP, h.2.1.debt (by omega) hP _, h.2.2.1, h.2.2.2.1.upd hk, h.2.2.2.2.upd (by omega) (by omega) hne _⟩, fun j hj => upd_n (by omega)⟩
  · rw [t]; exact ⟨_, _, _, rfl, rfl, h, fun _ _ => rfl⟩
theorem e_dry (h : LI P st Da Dr Na Mo Wa De) (v : Int32) : ∃ r Dr' st', f_X7_dry Dr v = some (r, Dr') ∧ f_X8_dry st v = some (r, st') ∧ LI P st' Da Dr' Na Mo Wa De ∧ ∀ j, 42 ≤ j → st' j = st j := by
  have hP := h.1
  unfold f_X7_dry f_X8_dry
  rw [X_within v 0 9 rfl rfl, M_in v 0 9 rfl rfl, b1_some, b1_some]
  rcases tb_cases v 0 9 with ⟨t, -⟩ | ⟨t, -⟩
  · have e : f_X8_becomes st 41 v = some (st 41, upd st 41 v) := M_becomes (i := 41) (by omega) v
    rw [t, if_neg n10, if_neg n10, e, b2_some, h.2.1.2.1]
    exact ⟨_, _, _, rfl, rfl, ⟨hP, h.2.1.dry hP v, h.2.2⟩, fun j hj => upd_n (by omega)⟩
  · rw [t]; exact ⟨_, _, _, rfl, rfl, h, fun _ _ => rfl⟩
end E1
